import java.util.ArrayList;
import java.util.Arrays;
import java.util.Comparator;
import java.util.List;
import java.util.TreeMap;

/**
 * The document once more, in the slowest and plainest form: everything is worked out anew from
 * maps and sorted lists. RandomRunsTest holds the class against it.
 */
final class Model {
    private static final int BAD = -1;
    private static final int FULL = -2;
    private static final int FINDING = -3;
    private static final int NONE = -9;
    private static final int OK = 100;

    private final List<Integer> kinds = new ArrayList<>();
    /** null: the ROW is missing. */
    private final List<TreeMap<Integer, Integer>> rows = new ArrayList<>();
    private final List<Integer> watched = new ArrayList<>();
    private final List<int[]> rules = new ArrayList<>();
    private final int[] footings = new int[60];
    private final int[] found = new int[6];
    private int finding;
    private int watches;
    private int alarms;
    private long asked;
    private int[] dip = {NONE, NONE, NONE};

    private static boolean within(int v, int low, int high) {
        return low <= v && v <= high;
    }

    private boolean isStar(int star) {
        return within(star, 0, kinds.size() - 1);
    }

    private int find(int f) {
        finding = f;
        found[f]++;
        return FINDING;
    }

    private int tell(long v) {
        asked = v;
        return 1;
    }

    private int rowOrRefuse(boolean good, int star) {
        if (!good || !isStar(star)) {
            return BAD;
        }
        return rows.get(star) == null ? find(1) : OK;
    }

    private int lightsOrRefuse(boolean good, int star) {
        int r = rowOrRefuse(good, star);
        return r == OK && rows.get(star).isEmpty() ? find(4) : r;
    }

    private int nightOrRefuse(boolean good, int star, int night) {
        int r = rowOrRefuse(good, star);
        return r == OK && !within(night, 0, 59) ? find(2) : r;
    }

    private TreeMap<Integer, Integer> lightsOf(int star) {
        TreeMap<Integer, Integer> lights = new TreeMap<>();
        rows.get(star).forEach((night, v) -> lights.put(night, v - footings[night]));
        return lights;
    }

    private static int middle(Iterable<Integer> values) {
        List<Integer> sorted = new ArrayList<>();
        values.forEach(sorted::add);
        sorted.sort(Comparator.naturalOrder());
        return sorted.isEmpty() ? 0 : sorted.get(sorted.size() / 2);
    }

    int star(int kind) {
        if (!within(kind, 0, 3)) {
            return BAD;
        }
        if (kinds.size() == 12) {
            return FULL;
        }
        kinds.add(kind);
        rows.add(null);
        watched.add(NONE);
        return kinds.size() - 1;
    }

    int is(int star, int kind) {
        if (!isStar(star) || !within(kind, 0, 3)) {
            return BAD;
        }
        int[] parent = {-1, 0, 0, 2};
        for (int k = kinds.get(star); k >= 0; k = parent[k]) {
            if (k == kind) {
                return 1;
            }
        }
        return 0;
    }

    int mark(int star, int kind) {
        int is = is(star, kind);
        if (is == BAD) {
            return BAD;
        }
        if (is == 0) {
            return find(3);
        }
        if (kind == 0) {
            return kinds.get(star);
        }
        if (rows.get(star) == null) {
            return find(1);
        }
        return measure(star, new int[] {0, 2, 1, 3}[kind]);
    }

    int row(int star) {
        if (!isStar(star)) {
            return BAD;
        }
        return rows.set(star, new TreeMap<>()) == null ? 0 : 1;
    }

    int lay(int star, int night, int v) {
        int r = nightOrRefuse(v == NONE || within(v, 0, 10000), star, night);
        if (r != OK) {
            return r;
        }
        Integer was = v == NONE ? rows.get(star).remove(night) : rows.get(star).put(night, v);
        return was == null ? NONE : was;
    }

    int at(int star, int night) {
        int r = nightOrRefuse(true, star, night);
        return r == OK ? rows.get(star).getOrDefault(night, NONE) : r;
    }

    int light(int star, int night) {
        int r = nightOrRefuse(true, star, night);
        if (r != OK) {
            return r;
        }
        return rows.get(star).containsKey(night) ? tell(lightsOf(star).get(night)) : NONE;
    }

    int tear(int star) {
        int r = rowOrRefuse(true, star);
        if (r != OK) {
            return r;
        }
        rows.set(star, null);
        return 1;
    }

    int copy(int star, int i, int other, int j, int n) {
        if (!isStar(star) || !isStar(other)) {
            return BAD;
        }
        if (n < 0) {
            return find(5);
        }
        if (rows.get(star) == null || rows.get(other) == null) {
            return find(1);
        }
        if (i < 0 || j < 0 || (long) i + n > 60 || (long) j + n > 60) {
            return find(2);
        }
        TreeMap<Integer, Integer> before = new TreeMap<>(rows.get(star));
        for (int k = 0; k < n; k++) {
            lay(other, j + k, before.getOrDefault(i + k, NONE));
        }
        return 1;
    }

    int foot(int night, int v) {
        if (!within(night, 0, 59) || !within(v, -10000, 10000)) {
            return BAD;
        }
        footings[night] = v;
        return 1;
    }

    int footing(int night) {
        return within(night, 0, 59) ? tell(footings[night]) : BAD;
    }

    int level() {
        for (int night = 0; night < 60; night++) {
            List<Integer> differences = new ArrayList<>();
            for (int s = 0; s < kinds.size(); s++) {
                if (kinds.get(s) == 1 && rows.get(s) != null && rows.get(s).containsKey(night)) {
                    differences.add(rows.get(s).get(night) - middle(rows.get(s).values()));
                }
            }
            footings[night] = middle(differences);
        }
        return (int) Arrays.stream(footings).filter(v -> v != 0).count();
    }

    int levelOf(int star) {
        int r = lightsOrRefuse(true, star);
        return r == OK ? tell(middle(lightsOf(star).values())) : r;
    }

    int mean(int star) {
        int r = lightsOrRefuse(true, star);
        if (r != OK) {
            return r;
        }
        long sum = lightsOf(star).values().stream().mapToLong(v -> v).sum();
        long size = rows.get(star).size();
        return tell(sum < 0 ? -(-sum / size) : sum / size);
    }

    private static boolean isPeriod(int p, int q) {
        return within(p, 1, 600) && within(q, 1, 60);
    }

    int phase(int night, int p, int q) {
        return within(night, 0, 59) && isPeriod(p, q) ? Math.floorMod(night * q, p) : BAD;
    }

    private long stringOf(int star, int p, int q) {
        TreeMap<Integer, Integer> lights = lightsOf(star);
        List<Integer> nights = new ArrayList<>(lights.keySet());
        nights.sort(Comparator.comparing((Integer n) -> phase(n, p, q)).thenComparing(n -> n));
        long sum = 0;
        for (int k = 0; k < nights.size(); k++) {
            int next = nights.get((k + 1) % nights.size());
            sum += Math.abs(lights.get(nights.get(k)) - lights.get(next));
        }
        return sum;
    }

    int string(int star, int p, int q) {
        int r = rowOrRefuse(isPeriod(p, q), star);
        return r == OK ? tell(stringOf(star, p, q)) : r;
    }

    private TreeMap<Integer, Long> strings(int star, int q, int a, int b) {
        TreeMap<Integer, Long> strings = new TreeMap<>();
        for (int p = a; p <= b; p++) {
            strings.put(p, stringOf(star, p, q));
        }
        return strings;
    }

    private static int best(TreeMap<Integer, Long> strings) {
        return strings.keySet().stream().min(Comparator.comparing(strings::get)).get();
    }

    int period(int star, int q, int a, int b) {
        int r = rowOrRefuse(isPeriod(a, q) && isPeriod(b, q) && a <= b, star);
        if (r != OK) {
            return r;
        }
        TreeMap<Integer, Long> strings = strings(star, q, a, b);
        asked = strings.get(best(strings));
        return best(strings);
    }

    int asWell(int star, int q, int a, int b, int h) {
        boolean good = isPeriod(a, q) && isPeriod(b, q) && a <= b && within(h, 0, 100);
        int r = rowOrRefuse(good, star);
        if (r != OK) {
            return r;
        }
        TreeMap<Integer, Long> strings = strings(star, q, a, b);
        long least = strings.get(best(strings));
        return (int) strings.values().stream().filter(s -> (s - least) * 100 <= h * least).count()
                - 1;
    }

    /** DEPTH and how many are IN; null if it does not count. */
    private long[] depthOf(int star, int p, int l, int f) {
        boolean[] in = new boolean[p];
        for (int k = 0; k < l; k++) {
            in[(f + k) % p] = true;
        }
        long sumIn = 0;
        long sumOut = 0;
        long countIn = 0;
        long countOut = 0;
        for (var night : lightsOf(star).entrySet()) {
            if (in[night.getKey() % p]) {
                sumIn += night.getValue();
                countIn++;
            } else {
                sumOut += night.getValue();
                countOut++;
            }
        }
        boolean counts = countIn > 0 && countOut > 0;
        return counts ? new long[] {sumOut * countIn - sumIn * countOut, countIn} : null;
    }

    int depth(int star, int p, int l, int f) {
        boolean good = within(p, 2, 600) && within(l, 1, Math.min(30, p - 1))
                && within(f, 0, p - 1);
        int r = rowOrRefuse(good, star);
        if (r != OK) {
            return r;
        }
        long[] depth = depthOf(star, p, l, f);
        return depth == null ? NONE : tell(depth[0]);
    }

    int dip(int star, int p, int most) {
        int r = rowOrRefuse(within(p, 2, 600) && within(most, 1, 30), star);
        if (r != OK) {
            return r;
        }
        int[] best = null;
        long greatest = 0;
        for (int l = 1; l <= most && l <= p - 1; l++) {
            for (int f = 0; f < p; f++) {
                long[] depth = depthOf(star, p, l, f);
                if (depth != null && (best == null || depth[0] > greatest)) {
                    greatest = depth[0];
                    best = new int[] {l, f, (int) depth[1]};
                }
            }
        }
        if (best == null) {
            return NONE;
        }
        dip = best;
        return best[0];
    }

    int dipOf(int what) {
        return within(what, 0, 2) ? dip[what] : BAD;
    }

    private List<Integer> lowsOf(int star, int d) {
        TreeMap<Integer, Integer> lights = lightsOf(star);
        int limit = middle(lights.values()) - d;
        List<List<Integer>> runs = new ArrayList<>();
        boolean open = false;
        for (int night : lights.keySet()) {
            boolean low = lights.get(night) <= limit;
            if (low && !open) {
                runs.add(new ArrayList<>());
            }
            if (low) {
                runs.get(runs.size() - 1).add(night);
            }
            open = low;
        }
        List<Integer> times = new ArrayList<>();
        for (List<Integer> run : runs) {
            times.add(run.stream().min(Comparator.comparing(lights::get)).get());
        }
        return times;
    }

    private int lowsOrRefuse(boolean good, int star, int d) {
        return lightsOrRefuse(good && within(d, 1, 10000), star);
    }

    int lows(int star, int d) {
        int r = lowsOrRefuse(true, star, d);
        return r == OK ? lowsOf(star, d).size() : r;
    }

    int low(int star, int d, int i) {
        int r = lowsOrRefuse(true, star, d);
        if (r != OK) {
            return r;
        }
        List<Integer> lows = lowsOf(star, d);
        return within(i, 0, lows.size() - 1) ? lows.get(i) : NONE;
    }

    /** By steps of one: the least k for which half a turn more is already beyond. */
    private static int nearest(int x, int p) {
        int k = -4000;
        while (2 * x >= 2 * k * p + p) {
            k++;
        }
        return k;
    }

    private int lateOf(int time, int c, int p, int q) {
        return q * (time - c) - nearest((time - c) * q, p) * p;
    }

    int turn(int star, int d, int i, int c, int p, int q) {
        int r = lowsOrRefuse(within(c, 0, 59) && isPeriod(p, q), star, d);
        if (r != OK) {
            return r;
        }
        List<Integer> lows = lowsOf(star, d);
        return within(i, 0, lows.size() - 1) ? tell(nearest((lows.get(i) - c) * q, p)) : NONE;
    }

    int late(int star, int d, int i, int c, int p, int q) {
        int r = lowsOrRefuse(within(c, 0, 59) && isPeriod(p, q), star, d);
        if (r != OK) {
            return r;
        }
        List<Integer> lows = lowsOf(star, d);
        return within(i, 0, lows.size() - 1) ? tell(lateOf(lows.get(i), c, p, q)) : NONE;
    }

    int bent(int star, int d, int i, int c, int p, int q) {
        int r = lowsOrRefuse(within(c, 0, 59) && isPeriod(p, q), star, d);
        if (r != OK) {
            return r;
        }
        List<Integer> lows = lowsOf(star, d);
        if (!within(i, 0, lows.size() - 3)) {
            return NONE;
        }
        return tell(lateOf(lows.get(i), c, p, q) - 2 * lateOf(lows.get(i + 1), c, p, q)
                + lateOf(lows.get(i + 2), c, p, q));
    }

    int rule(int what, int low, int high, int clas) {
        if (!within(what, 0, 3) || !within(clas, 0, 9) || low > high) {
            return BAD;
        }
        if (rules.size() == 10) {
            return FULL;
        }
        rules.add(new int[] {what, low, high, clas});
        return rules.size() - 1;
    }

    private int measure(int star, int what) {
        List<Integer> lights = new ArrayList<>(lightsOf(star).values());
        lights.sort(Comparator.naturalOrder());
        if (lights.isEmpty()) {
            return 0;
        }
        return switch (what) {
            case 0 -> middle(lights);
            case 1 -> lights.get(lights.size() - 1) - lights.get(0);
            case 2 -> lights.size();
            default -> lowsOf(star, 100).size();
        };
    }

    private int classNow(int star) {
        if (rows.get(star) == null || rows.get(star).isEmpty()) {
            return NONE;
        }
        for (int[] rule : rules) {
            if (within(measure(star, rule[0]), rule[1], rule[2])) {
                return rule[3];
            }
        }
        return NONE;
    }

    int classOf(int star) {
        int r = lightsOrRefuse(true, star);
        return r == OK ? classNow(star) : r;
    }

    int watch() {
        watches++;
        alarms = 0;
        for (int s = 0; s < kinds.size(); s++) {
            int now = classNow(s);
            if (watched.set(s, now) != now) {
                alarms |= 1 << s;
            }
        }
        return Integer.bitCount(alarms);
    }

    int alarms() {
        return alarms;
    }

    long asked() {
        return asked;
    }

    int count(int what) {
        return switch (what) {
            case 0 -> kinds.size();
            case 1 -> (int) rows.stream().filter(r -> r != null).count();
            case 2 -> rows.stream().mapToInt(r -> r == null ? 0 : r.size()).sum();
            case 3 -> rules.size();
            case 4 -> watches;
            default -> BAD;
        };
    }

    int finding() {
        return finding;
    }

    int findings(int f) {
        return within(f, 1, 5) ? found[f] : BAD;
    }

    long digest() {
        List<Integer> values = new ArrayList<>();
        for (int s = 0; s < kinds.size(); s++) {
            values.add(kinds.get(s));
            if (rows.get(s) == null) {
                values.add(-1);
                continue;
            }
            for (int night = 0; night < 60; night++) {
                values.add(rows.get(s).getOrDefault(night, NONE));
            }
        }
        for (int footing : footings) {
            values.add(footing);
        }
        values.addAll(watched);
        long h = 17;
        for (int v : values) {
            h = 31 * h + v;
        }
        return h;
    }
}
