import java.util.Arrays;

/**
 * Rows of light of changing stars: nights put on one footing, rows folded by periods, dips, lows on
 * a clock, classes and alarms. The words in capitals are those of the document.
 */
public final class ChangingStars {
    public static final int BAD = -1, FULL = -2, FINDING = -3, STATE = -4, NONE = -9;

    private static final int MOST_STARS = 12;
    private static final int MOST_RULES = 10;
    private static final int NIGHTS = 60;
    private static final int MOST_LIGHT = 10000;
    private static final int MOST_FOOTING = 10000;
    private static final int MOST_DEPTH = 10000;
    private static final int MOST_P = 600;
    private static final int MOST_Q = 60;
    private static final int MOST_DIP = 30;
    private static final int MOST_CLASS = 9;
    private static final int DEPTH_OF_MARKS = 100;

    private static final int ANY = 0;
    private static final int STILL = 1;
    private static final int PULSING = 2;
    private static final int DIPPING = 3;

    private static final int NOTHING = 1;
    private static final int BEYOND = 2;
    private static final int UNLIKE = 3;
    private static final int NOUGHT = 4;
    private static final int SIZE = 5;
    private static final int MOST_FINDING = 5;

    private static final int BY_LEVEL = 0;
    private static final int BY_SPREAD = 1;
    private static final int BY_LIGHTS = 2;
    private static final int BY_LOWS = 3;

    /** What a look at the arguments answers if nothing is refused; no refusal has this number. */
    private static final int FINE = 0;

    private final Star[] stars = new Star[MOST_STARS];
    private int starCount;
    private final Rule[] rules = new Rule[MOST_RULES];
    private int ruleCount;
    private final int[] footings = new int[NIGHTS];

    // Made once and used again by every call, since all calls of a run share one room.
    private final Curve curve = new Curve();
    private final BySize sizes = new BySize();
    private final Fold fold = new Fold();
    private final LowTimes lowTimes = new LowTimes();
    private final DipSearch dips = new DipSearch();
    private final int[] measures = new int[BY_LOWS + 1];
    private final int[] stillLevels = new int[MOST_STARS];

    private long told;
    private int alarmBits;
    private int watches;
    private int latestFinding;
    private final int[] findingCounts = new int[MOST_FINDING + 1];

    public ChangingStars() {
    }

    // ---- 1 stars, rows

    public int star(int kind) {
        if (!isKind(kind)) {
            return BAD;
        }
        if (starCount >= MOST_STARS) {
            return FULL;
        }
        stars[starCount] = new Star(kind);
        starCount++;
        return starCount - 1;
    }

    public int is(int star, int kind) {
        Star asked = starNumbered(star);
        if (asked == null || !isKind(kind)) {
            return BAD;
        }
        return asked.isOfKind(kind) ? 1 : 0;
    }

    public int mark(int star, int kind) {
        Star marked = starNumbered(star);
        if (marked == null || !isKind(kind)) {
            return BAD;
        }
        if (!marked.isOfKind(kind)) {
            return found(UNLIKE);
        }
        if (kind == ANY) {
            return marked.kind;
        }
        int refused = gatherRow(star);
        return refused == FINE ? markOfCurve(kind) : refused;
    }

    public int row(int star) {
        Star owner = starNumbered(star);
        if (owner == null) {
            return BAD;
        }
        int before = owner.hasRow ? 1 : 0;
        owner.emptyRow(true);
        return before;
    }

    public int lay(int star, int night, int v) {
        if (v != NONE && (v < 0 || v > MOST_LIGHT)) {
            return BAD;
        }
        int refused = lookAtNight(star, night);
        if (refused != FINE) {
            return refused;
        }
        int before = stars[star].lights[night];
        stars[star].lights[night] = v;
        return before;
    }

    public int at(int star, int night) {
        int refused = lookAtNight(star, night);
        return refused == FINE ? stars[star].lights[night] : refused;
    }

    public int light(int star, int night) {
        int refused = lookAtNight(star, night);
        if (refused != FINE) {
            return refused;
        }
        int laid = stars[star].lights[night];
        return laid == NONE ? NONE : tell(laid - footings[night]);
    }

    public int tear(int star) {
        int refused = lookAtRow(star);
        if (refused != FINE) {
            return refused;
        }
        stars[star].emptyRow(false);
        return 1;
    }

    public int copy(int star, int i, int other, int j, int n) {
        Star from = starNumbered(star);
        Star to = starNumbered(other);
        if (from == null || to == null) {
            return BAD;
        }
        if (n < 0) {
            return found(SIZE);
        }
        if (!from.hasRow || !to.hasRow) {
            return found(NOTHING);
        }
        if (!areNights(i, n) || !areNights(j, n)) {
            return found(BEYOND);
        }
        System.arraycopy(from.lights, i, to.lights, j, n);
        return 1;
    }

    public int foot(int night, int v) {
        if (!isNight(night) || v < -MOST_FOOTING || v > MOST_FOOTING) {
            return BAD;
        }
        footings[night] = v;
        return 1;
    }

    public int footing(int night) {
        return isNight(night) ? tell(footings[night]) : BAD;
    }

    public int level() {
        for (int k = 0; k < starCount; k++) {
            stillLevels[k] = levelWithoutFootings(stars[k]);
        }
        int uneven = 0;
        for (int night = 0; night < NIGHTS; night++) {
            footings[night] = middleDifference(night);
            if (footings[night] != 0) {
                uneven++;
            }
        }
        return uneven;
    }

    public int levelOf(int star) {
        int refused = gatherLights(star);
        return refused == FINE ? tell(levelOfCurve()) : refused;
    }

    public int mean(int star) {
        int refused = gatherLights(star);
        return refused == FINE ? tell(curve.average()) : refused;
    }

    // ---- 2 periods, dips

    public int phase(int night, int p, int q) {
        return isNight(night) && isPeriod(p, q) ? phaseOfTime(night, p, q) : BAD;
    }

    public int string(int star, int p, int q) {
        if (!isPeriod(p, q)) {
            return BAD;
        }
        int refused = gatherRow(star);
        return refused == FINE ? tell(fold.stringOf(curve, p, q)) : refused;
    }

    public int period(int star, int q, int a, int b) {
        int refused = foldFromTo(star, q, a, b);
        if (refused != FINE) {
            return refused;
        }
        int best = fold.leastFromTo(a, b);
        tell(fold.strings[best]);
        return best;
    }

    public int asWell(int star, int q, int a, int b, int h) {
        if (h < 0 || h > 100) {
            return BAD;
        }
        int refused = foldFromTo(star, q, a, b);
        if (refused != FINE) {
            return refused;
        }
        int best = fold.leastFromTo(a, b);
        long limit = (100L + h) * fold.strings[best];
        int others = 0;
        for (int p = a; p <= b; p++) {
            if (p != best && 100L * fold.strings[p] <= limit) {
                others++;
            }
        }
        return others;
    }

    public int depth(int star, int p, int l, int f) {
        if (p < 2 || p > MOST_P || l < 1 || l > MOST_DIP || l >= p || f < 0 || f >= p) {
            return BAD;
        }
        int refused = gatherRow(star);
        if (refused != FINE) {
            return refused;
        }
        long sumIn = 0;
        int countIn = 0;
        for (int k = 0; k < curve.size; k++) {
            if (Math.floorMod(phaseOfTime(curve.times[k], p, 1) - f, p) < l) {
                sumIn += curve.lights[k];
                countIn++;
            }
        }
        int countOut = curve.size - countIn;
        if (countIn == 0 || countOut == 0) {
            return NONE;
        }
        return tell((curve.sum() - sumIn) * countIn - sumIn * countOut);
    }

    public int dip(int star, int p, int most) {
        if (p < 2 || p > MOST_P || most < 1 || most > MOST_DIP) {
            return BAD;
        }
        int refused = gatherRow(star);
        if (refused != FINE) {
            return refused;
        }
        return dips.search(curve, p, most) ? dips.length : NONE;
    }

    public int dipOf(int what) {
        switch (what) {
            case 0:
                return dips.length;
            case 1:
                return dips.firstPhase;
            case 2:
                return dips.countIn;
            default:
                return BAD;
        }
    }

    // ---- 3 lows, clocks, classes

    public int lows(int star, int d) {
        int refused = gatherLows(star, d);
        return refused == FINE ? lowTimes.size : refused;
    }

    public int low(int star, int d, int i) {
        int refused = gatherLows(star, d);
        if (refused != FINE) {
            return refused;
        }
        return lowTimes.has(i) ? lowTimes.times[i] : NONE;
    }

    public int turn(int star, int d, int i, int c, int p, int q) {
        int refused = gatherLowsOnClock(star, d, c, p, q);
        if (refused != FINE) {
            return refused;
        }
        return lowTimes.has(i) ? tell(turnOfTime(lowTimes.times[i], c, p, q)) : NONE;
    }

    public int late(int star, int d, int i, int c, int p, int q) {
        int refused = gatherLowsOnClock(star, d, c, p, q);
        if (refused != FINE) {
            return refused;
        }
        return lowTimes.has(i) ? tell(lateOfTime(lowTimes.times[i], c, p, q)) : NONE;
    }

    public int bent(int star, int d, int i, int c, int p, int q) {
        int refused = gatherLowsOnClock(star, d, c, p, q);
        if (refused != FINE) {
            return refused;
        }
        // The first question keeps i + 2 from wrapping around.
        if (!lowTimes.has(i) || !lowTimes.has(i + 2)) {
            return NONE;
        }
        int first = lateOfTime(lowTimes.times[i], c, p, q);
        int second = lateOfTime(lowTimes.times[i + 1], c, p, q);
        int third = lateOfTime(lowTimes.times[i + 2], c, p, q);
        return tell(first - 2 * second + third);
    }

    public int rule(int what, int low, int high, int clas) {
        if (what < BY_LEVEL || what > BY_LOWS || clas < 0 || clas > MOST_CLASS || low > high) {
            return BAD;
        }
        if (ruleCount >= MOST_RULES) {
            return FULL;
        }
        rules[ruleCount] = new Rule(what, low, high, clas);
        ruleCount++;
        return ruleCount - 1;
    }

    public int classOf(int star) {
        int refused = gatherLights(star);
        return refused == FINE ? classOfCurve() : refused;
    }

    public int watch() {
        watches++;
        alarmBits = 0;
        int alarmCount = 0;
        for (int k = 0; k < starCount; k++) {
            curve.gather(stars[k], footings);
            int now = classOfCurve();
            if (now != stars[k].watchedClass) {
                stars[k].watchedClass = now;
                alarmBits |= 1 << k;
                alarmCount++;
            }
        }
        return alarmCount;
    }

    public int alarms() {
        return alarmBits;
    }

    // ---- 4 what is told

    public long asked() {
        return told;
    }

    public int count(int what) {
        switch (what) {
            case 0:
                return starCount;
            case 1:
                return countOfRows();
            case 2:
                return countOfLights();
            case 3:
                return ruleCount;
            case 4:
                return watches;
            default:
                return BAD;
        }
    }

    public int finding() {
        return latestFinding;
    }

    public int findings(int f) {
        return f < 1 || f > MOST_FINDING ? BAD : findingCounts[f];
    }

    public long digest() {
        long h = 17;
        for (int k = 0; k < starCount; k++) {
            h = stars[k].digestOnto(h);
        }
        for (int night = 0; night < NIGHTS; night++) {
            h = 31 * h + footings[night];
        }
        for (int k = 0; k < starCount; k++) {
            h = 31 * h + stars[k].watchedClass;
        }
        return h;
    }

    // ---- what is refused, what is told

    private int found(int finding) {
        latestFinding = finding;
        if (finding >= 1 && finding <= MOST_FINDING) {
            findingCounts[finding]++;
        }
        return FINDING;
    }

    private int tell(long answer) {
        told = answer;
        return 1;
    }

    private static boolean isKind(int kind) {
        return kind >= ANY && kind <= DIPPING;
    }

    private static boolean isNight(int night) {
        return night >= 0 && night < NIGHTS;
    }

    /** No place is added to n, since their sum could wrap around. */
    private static boolean areNights(int first, int n) {
        return first >= 0 && first <= NIGHTS && n <= NIGHTS - first;
    }

    private static boolean isPeriod(int p, int q) {
        return p >= 1 && p <= MOST_P && q >= 1 && q <= MOST_Q;
    }

    private Star starNumbered(int number) {
        return number >= 0 && number < starCount ? stars[number] : null;
    }

    private int lookAtRow(int number) {
        Star star = starNumbered(number);
        if (star == null) {
            return BAD;
        }
        return star.hasRow ? FINE : found(NOTHING);
    }

    private int lookAtNight(int number, int night) {
        int refused = lookAtRow(number);
        if (refused == FINE && !isNight(night)) {
            return found(BEYOND);
        }
        return refused;
    }

    // ---- gathering: behind FINE the curve (and what is made of it) is that of the STAR

    private int gatherRow(int number) {
        int refused = lookAtRow(number);
        if (refused == FINE) {
            curve.gather(stars[number], footings);
        }
        return refused;
    }

    private int gatherLights(int number) {
        int refused = gatherRow(number);
        if (refused == FINE && curve.size == 0) {
            return found(NOUGHT);
        }
        return refused;
    }

    private int gatherLows(int number, int d) {
        if (d < 1 || d > MOST_DEPTH) {
            return BAD;
        }
        int refused = gatherLights(number);
        if (refused == FINE) {
            lowTimes.gather(curve, levelOfCurve() - d);
        }
        return refused;
    }

    private int gatherLowsOnClock(int number, int d, int c, int p, int q) {
        return isNight(c) && isPeriod(p, q) ? gatherLows(number, d) : BAD;
    }

    private int foldFromTo(int number, int q, int a, int b) {
        if (!isPeriod(a, q) || !isPeriod(b, q) || a > b) {
            return BAD;
        }
        int refused = gatherRow(number);
        if (refused == FINE) {
            fold.stringsFromTo(curve, q, a, b);
        }
        return refused;
    }

    // ---- LEVELS, marks, CLASSES

    private int levelOfCurve() {
        sizes.clear();
        for (int k = 0; k < curve.size; k++) {
            sizes.put(curve.lights[k]);
        }
        return sizes.middle();
    }

    private int levelWithoutFootings(Star star) {
        sizes.clear();
        for (int night = 0; night < NIGHTS; night++) {
            if (star.lights[night] != NONE) {
                sizes.put(star.lights[night]);
            }
        }
        return sizes.middle();
    }

    private int middleDifference(int night) {
        sizes.clear();
        for (int k = 0; k < starCount; k++) {
            if (stars[k].isOfKind(STILL) && stars[k].lights[night] != NONE) {
                sizes.put(stars[k].lights[night] - stillLevels[k]);
            }
        }
        return sizes.middle();
    }

    /** All that RULES and marks ask for; each is 0 without lights. */
    private void measureCurve() {
        int level = levelOfCurve();
        measures[BY_LEVEL] = level;
        measures[BY_SPREAD] = sizes.spread();
        measures[BY_LIGHTS] = curve.size;
        lowTimes.gather(curve, level - DEPTH_OF_MARKS);
        measures[BY_LOWS] = lowTimes.size;
    }

    private int markOfCurve(int kind) {
        measureCurve();
        switch (kind) {
            case STILL:
                return measures[BY_LIGHTS];
            case PULSING:
                return measures[BY_SPREAD];
            default:
                return measures[BY_LOWS];
        }
    }

    private int classOfCurve() {
        if (curve.size == 0) {
            return NONE;
        }
        measureCurve();
        for (int k = 0; k < ruleCount; k++) {
            if (rules[k].fits(measures)) {
                return rules[k].clas;
            }
        }
        return NONE;
    }

    // ---- PHASES and clocks: p is at least 1 wherever these are called

    private static int phaseOfTime(int time, int p, int q) {
        return p < 1 ? 0 : time * q % p;
    }

    private static int turnOfTime(int time, int c, int p, int q) {
        return p < 1 ? 0 : Math.floorDiv(2 * (time - c) * q + p, 2 * p);
    }

    private static int lateOfTime(int time, int c, int p, int q) {
        return q * (time - c) - turnOfTime(time, c, p, q) * p;
    }

    // ---- counts

    private int countOfRows() {
        int there = 0;
        for (int k = 0; k < starCount; k++) {
            if (stars[k].hasRow) {
                there++;
            }
        }
        return there;
    }

    private int countOfLights() {
        int all = 0;
        for (int k = 0; k < starCount; k++) {
            for (int night = 0; night < NIGHTS; night++) {
                if (stars[k].lights[night] != NONE) {
                    all++;
                }
            }
        }
        return all;
    }

    private static final class Star {
        private final int kind;
        /** All NONE while the ROW is missing, so that only refusals need to ask for the ROW. */
        private final int[] lights = new int[NIGHTS];
        private boolean hasRow;
        private int watchedClass = NONE;

        private Star(int kind) {
            this.kind = kind;
            Arrays.fill(lights, NONE);
        }

        private boolean isOfKind(int asked) {
            return asked == ANY || asked == kind || asked == PULSING && kind == DIPPING;
        }

        private void emptyRow(boolean there) {
            hasRow = there;
            Arrays.fill(lights, NONE);
        }

        private long digestOnto(long before) {
            long h = 31 * before + kind;
            if (!hasRow) {
                return 31 * h - 1;
            }
            for (int night = 0; night < NIGHTS; night++) {
                h = 31 * h + lights[night];
            }
            return h;
        }
    }

    private static final class Rule {
        private final int what;
        private final int low;
        private final int high;
        private final int clas;

        private Rule(int what, int low, int high, int clas) {
            this.what = what;
            this.low = low;
            this.high = high;
            this.clas = clas;
        }

        private boolean fits(int[] measures) {
            return what >= 0 && what < measures.length
                    && low <= measures[what] && measures[what] <= high;
        }
    }

    /** The LIGHTS of one STAR and their TIMES, NIGHTS without a light left out. */
    private static final class Curve {
        private final int[] times = new int[NIGHTS];
        private final int[] lights = new int[NIGHTS];
        private int size;

        private void gather(Star star, int[] footings) {
            size = 0;
            for (int night = 0; night < NIGHTS; night++) {
                if (star.lights[night] != NONE) {
                    times[size] = night;
                    lights[size] = star.lights[night] - footings[night];
                    size++;
                }
            }
        }

        private long sum() {
            long all = 0;
            for (int k = 0; k < size; k++) {
                all += lights[k];
            }
            return all;
        }

        private long average() {
            return size == 0 ? 0 : sum() / size;
        }
    }

    /** Numbers that are put by size as they come. */
    private static final class BySize {
        private final int[] numbers = new int[NIGHTS];
        private int size;

        private void clear() {
            size = 0;
        }

        private void put(int number) {
            if (size >= NIGHTS) {
                return;
            }
            int place = size;
            while (place > 0 && numbers[place - 1] > number) {
                numbers[place] = numbers[place - 1];
                place--;
            }
            numbers[place] = number;
            size++;
        }

        private int middle() {
            return size == 0 ? 0 : numbers[size / 2];
        }

        private int spread() {
            return size == 0 ? 0 : numbers[size - 1] - numbers[0];
        }
    }

    /** A curve folded by a PERIOD, and THE STRINGS of many PERIODS. */
    private static final class Fold {
        private final int[] phases = new int[NIGHTS];
        private final int[] lights = new int[NIGHTS];
        private final int[] strings = new int[MOST_P + 1];

        private int stringOf(Curve curve, int p, int q) {
            for (int k = 0; k < curve.size; k++) {
                put(k, phaseOfTime(curve.times[k], p, q), curve.lights[k]);
            }
            int length = 0;
            for (int k = 0; k < curve.size; k++) {
                int next = k + 1 < curve.size ? k + 1 : 0;
                length += Math.abs(lights[k] - lights[next]);
            }
            return length;
        }

        /** Lights come by TIME, so one stays behind those of its own PHASE that came before. */
        private void put(int size, int phase, int light) {
            int place = size;
            while (place > 0 && phases[place - 1] > phase) {
                phases[place] = phases[place - 1];
                lights[place] = lights[place - 1];
                place--;
            }
            phases[place] = phase;
            lights[place] = light;
        }

        private void stringsFromTo(Curve curve, int q, int a, int b) {
            for (int p = a; p <= b; p++) {
                strings[p] = stringOf(curve, p, q);
            }
        }

        private int leastFromTo(int a, int b) {
            int best = a;
            for (int p = a + 1; p <= b; p++) {
                if (strings[p] < strings[best]) {
                    best = p;
                }
            }
            return best;
        }
    }

    /** The TIMES of the LOWS of a curve. */
    private static final class LowTimes {
        private final int[] times = new int[NIGHTS];
        private int size;

        private boolean has(int i) {
            return i >= 0 && i < size;
        }

        private void gather(Curve curve, int limit) {
            size = 0;
            boolean inRun = false;
            int least = 0;
            for (int k = 0; k < curve.size; k++) {
                boolean isLow = curve.lights[k] <= limit;
                if (isLow && !inRun) {
                    size++;
                }
                if (isLow && (!inRun || curve.lights[k] < least)) {
                    least = curve.lights[k];
                    times[size - 1] = curve.times[k];
                }
                inRun = isLow;
            }
        }
    }

    /** The search for THE DIP; it keeps the latest one that it found. */
    private static final class DipSearch {
        private final int[] sums = new int[MOST_P];
        private final int[] counts = new int[MOST_P];
        private final int[] sumsIn = new int[MOST_P];
        private final int[] countsIn = new int[MOST_P];
        private int sumOfAll;
        private int countOfAll;
        private int length = NONE;
        private int firstPhase = NONE;
        private int countIn = NONE;

        /**
         * A DIP of length l is that of length l - 1 from the same PHASE and one PHASE more, so
         * what is IN is never summed anew.
         */
        private boolean search(Curve curve, int p, int most) {
            share(curve, p);
            int longest = Math.min(most, p - 1);
            boolean some = false;
            long greatest = 0;
            for (int l = 1; l <= longest; l++) {
                for (int f = 0; f < p; f++) {
                    widen(f, f + l - 1 < p ? f + l - 1 : f + l - 1 - p);
                    if (countsHere(f) && (!some || depthFrom(f) > greatest)) {
                        some = true;
                        greatest = depthFrom(f);
                        keep(l, f);
                    }
                }
            }
            return some;
        }

        private void share(Curve curve, int p) {
            Arrays.fill(sums, 0);
            Arrays.fill(counts, 0);
            Arrays.fill(sumsIn, 0);
            Arrays.fill(countsIn, 0);
            sumOfAll = 0;
            countOfAll = curve.size;
            for (int k = 0; k < curve.size; k++) {
                int phase = phaseOfTime(curve.times[k], p, 1);
                sums[phase] += curve.lights[k];
                counts[phase]++;
                sumOfAll += curve.lights[k];
            }
        }

        private void widen(int f, int phase) {
            sumsIn[f] += sums[phase];
            countsIn[f] += counts[phase];
        }

        private boolean countsHere(int f) {
            return countsIn[f] > 0 && countsIn[f] < countOfAll;
        }

        private long depthFrom(int f) {
            long sumOut = sumOfAll - sumsIn[f];
            long sumIn = sumsIn[f];
            return sumOut * countsIn[f] - sumIn * (countOfAll - countsIn[f]);
        }

        private void keep(int l, int f) {
            length = l;
            firstPhase = f;
            countIn = countsIn[f];
        }
    }
}
