import java.lang.reflect.Method;
import java.util.ArrayList;
import java.util.Arrays;
import java.util.HashMap;
import java.util.List;
import java.util.Map;

/**
 * "Refused is, the first of these that fits, in this order: BAD, FULL, STATE, FINDING, unless a call
 * says so otherwise" and "What is refused changes nothing but finding(), findings()".
 *
 * For each call: arguments that are fine, and each fault that one of them can have. Every fault alone
 * and every two of them together are held against the order in which the promise names its refusals.
 * A twin that was never asked then answers the same questions, so that nothing has changed.
 */
public final class RefusalsTest {
    private static final int BAD = ChangingStars.BAD;
    private static final int FULL = ChangingStars.FULL;
    private static final int NONE = ChangingStars.NONE;
    private static final int NOTHING = 1;
    private static final int BEYOND = 2;
    private static final int UNLIKE = 3;
    private static final int NOUGHT = 4;
    private static final int SIZE = 5;
    private static final int LEAST = Integer.MIN_VALUE;
    private static final int MOST = Integer.MAX_VALUE;

    // The STARS of every object here; those behind them are of no further use but to be many.
    private static final int STILL = 0;
    private static final int DIPPING = 1;
    private static final int EMPTY = 2;
    private static final int MISSING = 3;
    private static final int OTHER = 4;
    private static final int OTHER_MISSING = 5;
    private static final int STARS_OF_FEW = 6;

    private static final Map<String, Method> METHODS = new HashMap<>();

    /** A wrong value of one argument (or of two that only together are wrong) and what it answers. */
    private record Fault(int answer, int[] places, int[] values) {
        boolean isApartFrom(Fault other) {
            return Arrays.stream(places)
                    .noneMatch(p -> Arrays.stream(other.places).anyMatch(o -> o == p));
        }

        void putInto(int[] arguments) {
            for (int k = 0; k < places.length; k++) {
                arguments[places[k]] = values[k];
            }
        }
    }

    /** A call: its fine arguments, the order of its refusals (NONE is behind them), its faults. */
    private static final class Call {
        private final String name;
        private final int[] fine;
        private final int[] order;
        private final List<Fault> faults = new ArrayList<>();

        private Call(String name, int[] fine, int... order) {
            this.name = name;
            this.fine = fine;
            this.order = order;
        }

        private Call wrong(int answer, int place, int... values) {
            for (int value : values) {
                faults.add(new Fault(answer, new int[] {place}, new int[] {value}));
            }
            return this;
        }

        private Call wrongTogether(int answer, int place, int value, int other, int otherValue) {
            faults.add(new Fault(answer, new int[] {place, other}, new int[] {value, otherValue}));
            return this;
        }
    }

    private final boolean full;

    private RefusalsTest(boolean full) {
        this.full = full;
    }

    public static void main(String[] args) throws ReflectiveOperationException {
        for (Method method : ChangingStars.class.getMethods()) {
            METHODS.put(method.getName(), method);
        }
        for (boolean full : new boolean[] {false, true}) {
            RefusalsTest test = new RefusalsTest(full);
            test.starsAndRows();
            test.periodsAndDips();
            test.lowsAndClocks();
            test.classesAndWhatIsTold();
        }
        new RefusalsTest(true).whatIsFull();
        new RefusalsTest(false).whatIsNotFull();
        Check.end();
    }

    // ---- the objects

    private ChangingStars object() {
        ChangingStars x = new ChangingStars();
        for (int kind : new int[] {1, 3, 2, 3, 1, 0}) {
            x.star(kind);
        }
        for (int star : new int[] {STILL, DIPPING, EMPTY, OTHER}) {
            x.row(star);
        }
        // LOWS of the DIPPING one for depth 100: at 3, 10, 17 and 24.
        for (int night = 0; night < 7; night++) {
            x.lay(DIPPING, night, night == 3 ? 500 : 1000 + night);
            x.lay(STILL, night, 700 + night * night);
        }
        for (int night = 7; night < 28; night += 7) {
            x.copy(DIPPING, 0, DIPPING, night, 7);
        }
        x.lay(OTHER, 59, 33);
        x.foot(2, 40);
        x.foot(50, -300);
        for (int k = 0; full && k < 6; k++) {
            x.star(k % 4);
        }
        for (int k = 0; k < (full ? 10 : 3); k++) {
            x.rule(k % 4, k * 10, k * 10 + 900, k % 10);
        }
        x.watch();
        x.dip(DIPPING, 7, 4);
        everyFindingOnce(x);
        // So that the next watch() sees something new, and asked() tells something.
        x.lay(STILL, 30, 9999);
        x.mean(DIPPING);
        return x;
    }

    private static void everyFindingOnce(ChangingStars x) {
        x.at(MISSING, 0);
        x.at(STILL, 60);
        x.mark(STILL, 2);
        x.mean(EMPTY);
        x.copy(STILL, 0, STILL, 0, -1);
    }

    private int[] noStars() {
        return new int[] {-1, full ? 12 : STARS_OF_FEW, LEAST, MOST};
    }

    // ---- how a call is held against its promise

    private void look(Call call) throws ReflectiveOperationException {
        Check.dueTrue(call.name + Arrays.toString(call.fine) + " is not refused",
                isNotRefused(ask(object(), call.name, call.fine)));
        for (Fault one : call.faults) {
            lookAt(call, one, one);
            for (Fault two : call.faults) {
                if (one.isApartFrom(two)) {
                    lookAt(call, one, two);
                }
            }
        }
    }

    private void lookAt(Call call, Fault one, Fault two) throws ReflectiveOperationException {
        int[] arguments = call.fine.clone();
        one.putInto(arguments);
        two.putInto(arguments);
        for (int answer : call.order) {
            if (answer == one.answer || answer == two.answer) {
                dueRefused(call.name, arguments, answer);
                return;
            }
        }
        throw new IllegalStateException(call.name + " has a fault that its order does not name");
    }

    /** answer: BAD, FULL, NONE, or the number of a FINDING. */
    private void dueRefused(String name, int[] arguments, int answer)
            throws ReflectiveOperationException {
        String told = name + Arrays.toString(arguments) + (full ? " of twelve" : " of few");
        ChangingStars x = object();
        int before = x.finding();
        Check.due(told, ask(x, name, arguments), answer > 0 ? ChangingStars.FINDING : answer);
        Check.due("finding() behind " + told, x.finding(), answer > 0 ? answer : before);
        for (int f = 1; f <= 5; f++) {
            int want = f == answer ? 2 : 1;
            Check.due("findings(" + f + ") behind " + told, x.findings(f), want);
        }
        List<Long> due = allThatIsTold(object());
        List<Long> got = allThatIsTold(x);
        for (int k = 0; k < due.size(); k++) {
            Check.due("answer " + k + " behind " + told, got.get(k), due.get(k));
        }
    }

    private static boolean isNotRefused(int answer) {
        return answer >= 0 || answer == NONE;
    }

    private static int ask(ChangingStars x, String name, int[] arguments)
            throws ReflectiveOperationException {
        Object[] boxed = Arrays.stream(arguments).boxed().toArray();
        return (Integer) METHODS.get(name).invoke(x, boxed);
    }

    /** Answers that depend on all that an object holds, but for its FINDINGS. */
    private static List<Long> allThatIsTold(ChangingStars x) {
        List<Long> told = new ArrayList<>();
        told.add(x.asked());
        told.add((long) x.alarms());
        for (int what = 0; what <= 2; what++) {
            told.add((long) x.dipOf(what));
        }
        for (int what = 0; what <= 4; what++) {
            told.add((long) x.count(what));
        }
        told.add(x.digest());
        for (int star = 0; star < 12; star++) {
            told.add((long) x.is(star, 2));
            told.add((long) x.classOf(star));
        }
        told.add((long) x.lows(DIPPING, 100));
        told.add((long) x.string(DIPPING, 7, 1));
        told.add(x.asked());
        told.add((long) x.watch());
        told.add((long) x.alarms());
        told.add((long) x.level());
        told.add((long) x.rule(0, 0, 0, 0));
        told.add((long) x.star(0));
        told.add(x.digest());
        return told;
    }

    // ---- promises 3 to 15

    private void starsAndRows() throws ReflectiveOperationException {
        look(new Call("is", args(DIPPING, 2), BAD)
                .wrong(BAD, 0, noStars()).wrong(BAD, 1, -1, 4, LEAST, MOST));
        look(new Call("mark", args(DIPPING, 3), BAD, UNLIKE, NOTHING)
                .wrong(BAD, 0, noStars()).wrong(BAD, 1, -1, 4, LEAST, MOST)
                .wrong(UNLIKE, 1, 1).wrong(NOTHING, 0, MISSING));
        look(new Call("row", args(EMPTY), BAD).wrong(BAD, 0, noStars()));
        look(new Call("lay", args(STILL, 59, 10000), BAD, NOTHING, BEYOND)
                .wrong(BAD, 0, noStars()).wrong(BAD, 2, -1, -8, -10, 10001, LEAST, MOST)
                .wrong(NOTHING, 0, MISSING).wrong(BEYOND, 1, -1, 60, LEAST, MOST));
        look(new Call("at", args(STILL, 0), BAD, NOTHING, BEYOND)
                .wrong(BAD, 0, noStars()).wrong(NOTHING, 0, MISSING)
                .wrong(BEYOND, 1, -1, 60, LEAST, MOST));
        look(new Call("light", args(STILL, 0), BAD, NOTHING, BEYOND, NONE)
                .wrong(BAD, 0, noStars()).wrong(NOTHING, 0, MISSING)
                .wrong(BEYOND, 1, -1, 60, LEAST, MOST).wrong(NONE, 1, 59));
        look(new Call("tear", args(EMPTY), BAD, NOTHING)
                .wrong(BAD, 0, noStars()).wrong(NOTHING, 0, MISSING));
        look(new Call("copy", args(DIPPING, 0, OTHER, 0, 5), BAD, SIZE, NOTHING, BEYOND)
                .wrong(BAD, 0, noStars()).wrong(BAD, 2, noStars())
                .wrong(SIZE, 4, -1, -60, LEAST)
                .wrong(NOTHING, 0, MISSING).wrong(NOTHING, 2, OTHER_MISSING)
                .wrong(BEYOND, 1, -1, 56, 60, 61, LEAST, MOST)
                .wrong(BEYOND, 3, -1, 56, 60, 61, LEAST, MOST)
                .wrong(BEYOND, 4, 61, MOST)
                .wrongTogether(BEYOND, 1, 61, 4, 0).wrongTogether(BEYOND, 3, 61, 4, 0));
        look(new Call("foot", args(59, 10000), BAD)
                .wrong(BAD, 0, -1, 60, LEAST, MOST).wrong(BAD, 1, -10001, 10001, LEAST, MOST));
        look(new Call("footing", args(59), BAD).wrong(BAD, 0, -1, 60, LEAST, MOST));
        for (String name : new String[] {"levelOf", "mean"}) {
            look(new Call(name, args(DIPPING), BAD, NOTHING, NOUGHT)
                    .wrong(BAD, 0, noStars()).wrong(NOTHING, 0, MISSING).wrong(NOUGHT, 0, EMPTY));
        }
    }

    // ---- promises 16 to 22

    private void periodsAndDips() throws ReflectiveOperationException {
        look(new Call("phase", args(59, 600, 60), BAD)
                .wrong(BAD, 0, -1, 60, LEAST, MOST).wrong(BAD, 1, 0, -1, 601, LEAST, MOST)
                .wrong(BAD, 2, 0, -1, 61, LEAST, MOST));
        look(new Call("string", args(DIPPING, 600, 60), BAD, NOTHING)
                .wrong(BAD, 0, noStars()).wrong(BAD, 1, 0, -1, 601, LEAST, MOST)
                .wrong(BAD, 2, 0, -1, 61, LEAST, MOST).wrong(NOTHING, 0, MISSING));
        look(periodsOf(new Call("period", args(DIPPING, 60, 1, 600), BAD, NOTHING)));
        look(periodsOf(new Call("asWell", args(DIPPING, 60, 1, 600, 100), BAD, NOTHING))
                .wrong(BAD, 4, -1, 101, LEAST, MOST));
        look(new Call("depth", args(DIPPING, 7, 6, 6), BAD, NOTHING, NONE)
                .wrong(BAD, 0, noStars()).wrong(BAD, 1, 1, 0, -1, 6, 601, LEAST, MOST)
                .wrong(BAD, 2, 0, -1, 7, 31, LEAST, MOST).wrong(BAD, 3, -1, 7, LEAST, MOST)
                .wrongTogether(BAD, 1, 600, 2, 31).wrongTogether(BAD, 1, 600, 3, 600)
                .wrong(NOTHING, 0, MISSING).wrong(NONE, 0, EMPTY));
        look(new Call("dip", args(DIPPING, 600, 30), BAD, NOTHING, NONE)
                .wrong(BAD, 0, noStars()).wrong(BAD, 1, 1, 0, -1, 601, LEAST, MOST)
                .wrong(BAD, 2, 0, -1, 31, LEAST, MOST)
                .wrong(NOTHING, 0, MISSING).wrong(NONE, 0, EMPTY, OTHER));
        look(new Call("dipOf", args(2), BAD).wrong(BAD, 0, -1, 3, LEAST, MOST));
    }

    private Call periodsOf(Call call) {
        return call.wrong(BAD, 0, noStars()).wrong(BAD, 1, 0, -1, 61, LEAST, MOST)
                .wrong(BAD, 2, 0, -1, 601, LEAST, MOST).wrong(BAD, 3, 0, -1, 601, LEAST, MOST)
                .wrongTogether(BAD, 2, 5, 3, 4).wrongTogether(BAD, 2, 601, 3, 601)
                .wrongTogether(BAD, 2, 0, 3, 0).wrong(NOTHING, 0, MISSING);
    }

    // ---- promises 23 to 27

    private void lowsAndClocks() throws ReflectiveOperationException {
        look(lowsOf(new Call("lows", args(DIPPING, 100), BAD, NOTHING, NOUGHT)));
        look(lowsOf(new Call("low", args(DIPPING, 100, 3), BAD, NOTHING, NOUGHT, NONE))
                .wrong(NONE, 2, -1, 4, LEAST, MOST));
        look(clockOf(new Call("turn", args(DIPPING, 100, 3, 59, 600, 60), BAD, NOTHING, NOUGHT, NONE))
                .wrong(NONE, 2, -1, 4, LEAST, MOST));
        look(clockOf(new Call("late", args(DIPPING, 100, 3, 59, 600, 60), BAD, NOTHING, NOUGHT, NONE))
                .wrong(NONE, 2, -1, 4, LEAST, MOST));
        look(clockOf(new Call("bent", args(DIPPING, 100, 1, 59, 600, 60), BAD, NOTHING, NOUGHT, NONE))
                .wrong(NONE, 2, -1, 2, 3, 4, LEAST, MOST, MOST - 1, MOST - 2));
    }

    private Call lowsOf(Call call) {
        return call.wrong(BAD, 0, noStars()).wrong(BAD, 1, 0, -1, 10001, LEAST, MOST)
                .wrong(NOTHING, 0, MISSING).wrong(NOUGHT, 0, EMPTY);
    }

    private Call clockOf(Call call) {
        return lowsOf(call).wrong(BAD, 3, -1, 60, LEAST, MOST)
                .wrong(BAD, 4, 0, -1, 601, LEAST, MOST).wrong(BAD, 5, 0, -1, 61, LEAST, MOST);
    }

    // ---- promises 29, 33, 35

    private void classesAndWhatIsTold() throws ReflectiveOperationException {
        look(new Call("classOf", args(DIPPING), BAD, NOTHING, NOUGHT)
                .wrong(BAD, 0, noStars()).wrong(NOTHING, 0, MISSING).wrong(NOUGHT, 0, EMPTY));
        look(new Call("count", args(4), BAD).wrong(BAD, 0, -1, 5, LEAST, MOST));
        look(new Call("findings", args(5), BAD).wrong(BAD, 0, 0, -1, 6, LEAST, MOST));
    }

    // ---- promises 2 and 28: BAD is ahead of FULL

    private void whatIsFull() throws ReflectiveOperationException {
        for (int kind = 0; kind <= 3; kind++) {
            dueRefused("star", args(kind), FULL);
        }
        for (int what = 0; what <= 3; what++) {
            dueRefused("rule", args(what, LEAST, MOST, 9 - what), FULL);
        }
        noStarAndNoRule();
    }

    private void whatIsNotFull() throws ReflectiveOperationException {
        Check.due("star(3)", object().star(3), STARS_OF_FEW);
        Check.due("rule(3, MOST, MOST, 9)", object().rule(3, MOST, MOST, 9), 3);
        noStarAndNoRule();
    }

    private void noStarAndNoRule() throws ReflectiveOperationException {
        for (int kind : args(-1, 4, LEAST, MOST)) {
            dueRefused("star", args(kind), BAD);
        }
        int[][] wrong = {{-1, 0, 0, 0}, {4, 0, 0, 0}, {LEAST, 0, 0, 0}, {MOST, 0, 0, 0},
            {0, 0, 0, -1}, {0, 0, 0, 10}, {0, 0, 0, NONE}, {0, 0, 0, LEAST}, {0, 0, 0, MOST},
            {0, 1, 0, 0}, {0, MOST, LEAST, 0}, {0, 0, LEAST, 0}, {4, 1, 0, 10}, {3, 0, -1, 9}};
        for (int[] arguments : wrong) {
            dueRefused("rule", arguments, BAD);
        }
    }

    private static int[] args(int... arguments) {
        return arguments;
    }
}
