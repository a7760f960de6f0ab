/**
 * The edges that the document names for LOWS, clocks, RULES, CLASSES and ALARMS: Terms, part 3, and
 * promises 23 to 31. Each test stands below the words that it holds; what is refused, and in which
 * order, is RefusalsTest's.
 */
public final class LowsEdgesTest {
    private static final int BAD = ChangingStars.BAD;
    private static final int FULL = ChangingStars.FULL;
    private static final int FINDING = ChangingStars.FINDING;
    private static final int NONE = ChangingStars.NONE;
    private static final int LEAST = Integer.MIN_VALUE;
    private static final int MOST = Integer.MAX_VALUE;

    public static void main(String[] args) {
        theLeastAndTheGreatestDepth();
        atLevelLessDepth();
        lowsOfFewLights();
        runsOverGaps();
        aRunThatEnds();
        runsDoNotWrapAround();
        lowsOfAFullRow();
        levelAndLowsGoByLights();
        theTimeOfALow();
        ofLikeOnesTheFirst();
        theFirstAndTheLastLow();
        lowsWithoutLights();
        theNearestWhole();
        halfIsUp();
        theBeginningOfAClock();
        theLeastAndTheGreatestClock();
        lateIsWithinHalfATurn();
        threeLowsAreBent();
        notAllThreeAreThere();
        clocksLeaveAskedBehindNone();
        tenRules();
        whatIsNoRule();
        fromLowToHigh();
        theLeastAndTheGreatestRule();
        theFirstRuleThatFits();
        theFirstAndTheLastClass();
        classWithoutLights();
        rulesByCountsAndLows();
        watchAtFirst();
        watchWithoutLights();
        watchAStarThatIsNew();
        watchAClassThatIsLeft();
        watchBehindANewRule();
        alarmsOfAll();
        alarmsOfTheLatestWatch();
        Check.end();
    }

    private static ChangingStars with(int... lights) {
        ChangingStars x = new ChangingStars();
        Check.starWith(x, 3, lights);
        return x;
    }

    // "for a depth d (1 .. 10000)"
    private static void theLeastAndTheGreatestDepth() {
        ChangingStars x = with(10000, 9999, 10000, 0, 10000);
        Check.due("d 1", x.lows(0, 1), 2);
        Check.due("d 10000", x.lows(0, 10000), 1);
        Check.due("low for d 10000", x.low(0, 10000, 0), 3);
        for (int d : new int[] {0, -1, 10001, LEAST, MOST}) {
            Check.due("lows for d " + d, x.lows(0, d), BAD);
            Check.due("low for d " + d, x.low(0, d, 0), BAD);
            Check.due("turn for d " + d, x.turn(0, d, 0, 0, 1, 1), BAD);
            Check.due("late for d " + d, x.late(0, d, 0, 0, 1, 1), BAD);
            Check.due("bent for d " + d, x.bent(0, d, 0, 0, 1, 1), BAD);
        }
        x.lay(0, 3, 1);
        Check.due("1 is not 10000 below", x.lows(0, 10000), 0);
    }

    // "all of which are LEVEL less d or below"
    private static void atLevelLessDepth() {
        ChangingStars x = with(500, 451, 500, 450, 500, 449, 500, 500);
        Check.due("for 49", x.lows(0, 49), 3);
        Check.due("for 50", x.lows(0, 50), 2);
        Check.due("for 51", x.lows(0, 51), 1);
        Check.due("for 52", x.lows(0, 52), 0);
    }

    private static void lowsOfFewLights() {
        ChangingStars x = with(40);
        Check.due("one light is its own LEVEL", x.lows(0, 1), 0);
        x.lay(0, 1, 30);
        Check.due("of two the greater is the LEVEL", x.lows(0, 10), 1);
        Check.due("TIME", x.low(0, 10, 0), 1);
        x.lay(0, 1, 50);
        Check.due("of two the greater is the LEVEL", x.low(0, 10, 0), 0);
        x.lay(0, 1, 40);
        Check.due("two alike", x.lows(0, 1), 0);
    }

    // "runs of NIGHTS with a light, one behind the other (those without a light aside)"
    private static void runsOverGaps() {
        ChangingStars x = with(90, 90, 20, NONE, NONE, 10, NONE, 30, 90, 90, 90);
        Check.due("one run over two gaps", x.lows(0, 50), 1);
        Check.due("TIME", x.low(0, 50, 0), 5);
        x.lay(0, 6, 90);
        Check.due("a light between makes two", x.lows(0, 50), 2);
        x.lay(0, 6, NONE);
        Check.due("without it one again", x.lows(0, 50), 1);
        x.lay(0, 59, 15);
        Check.due("far behind", x.low(0, 50, 1), 59);
        for (int night = 8; night <= 10; night++) {
            x.copy(0, night, 0, night - 8 + 20, 1);
            x.lay(0, night, NONE);
        }
        Check.due("over a long gap", x.lows(0, 50), 2);
        x.lay(0, 20, NONE);
        x.lay(0, 21, NONE);
        x.lay(0, 22, NONE);
        x.copy(0, 0, 0, 2, 1);
        x.lay(0, 7, 90);
        // 90, 90, 90, 10, 90 and 15 at the end.
        Check.due("two runs", x.lows(0, 50), 2);
        Check.due("TIME", x.low(0, 50, 0), 5);
    }

    private static void aRunThatEnds() {
        ChangingStars x = with(90, 90, 90, 20, 41, 20, 90, 90, 40, 40, 90);
        // LEVEL 90: 40 is LEVEL less 50, and 41 is not.
        Check.due("lows", x.lows(0, 50), 3);
        Check.due("first", x.low(0, 50, 0), 3);
        Check.due("second", x.low(0, 50, 1), 5);
        Check.due("third", x.low(0, 50, 2), 8);
        Check.due("for 49 two are one", x.lows(0, 49), 2);
    }

    private static void runsDoNotWrapAround() {
        ChangingStars x = with(20, 90, 90, 90);
        x.lay(0, 59, 10);
        Check.due("the first NIGHT and the last", x.lows(0, 50), 2);
        Check.due("the first", x.low(0, 50, 0), 0);
        Check.due("the last", x.low(0, 50, 1), 59);
    }

    private static void lowsOfAFullRow() {
        ChangingStars x = with();
        for (int night = 0; night < 60; night++) {
            x.lay(0, night, night % 2 == 0 ? 10 : 90);
        }
        Check.due("every second NIGHT", x.lows(0, 80), 30);
        Check.due("the last one", x.low(0, 80, 29), 58);
        Check.due("one behind it", x.low(0, 80, 30), NONE);
        for (int night = 0; night < 60; night++) {
            x.lay(0, night, night < 30 ? 10 : 90);
        }
        Check.due("half of all in one run", x.lows(0, 80), 1);
        Check.due("its first", x.low(0, 80, 0), 0);
        x.lay(0, 30, 10);
        Check.due("more than half is LEVEL", x.lows(0, 80), 0);
    }

    private static void levelAndLowsGoByLights() {
        ChangingStars x = with(90, 90, 90, 90, 90);
        Check.due("all alike", x.lows(0, 1), 0);
        x.foot(2, 40);
        Check.due("one is less by its FOOTING", x.low(0, 40, 0), 2);
        Check.due("not by 41", x.lows(0, 41), 0);
        for (int night = 0; night < 5; night++) {
            x.foot(night, night == 2 ? 200 : 100);
        }
        Check.due("LIGHTS below 0", x.low(0, 100, 0), 2);
        Check.due("not by 101", x.lows(0, 101), 0);
    }

    // "that of its least LIGHT"
    private static void theTimeOfALow() {
        ChangingStars x = with(90, 90, 90, 90, 30, 20, 25, 90, 10, 15, 90, 35, 20, 90, 90, 90);
        Check.due("in the middle", x.low(0, 50, 0), 5);
        Check.due("the first", x.low(0, 50, 1), 8);
        Check.due("the last", x.low(0, 50, 2), 12);
    }

    // "of like ones the first"
    private static void ofLikeOnesTheFirst() {
        ChangingStars x = with(90, 90, 90, 90, 30, 20, NONE, 20, 20, 25, 90, 90, 20, 20, 90, 90, 90);
        Check.due("low 0", x.low(0, 50, 0), 5);
        Check.due("low 1", x.low(0, 50, 1), 12);
    }

    // "TIME of LOW i; NONE: none such."
    private static void theFirstAndTheLastLow() {
        ChangingStars x = with(10, 90, 90, 20, 90, 90, 90);
        Check.due("low -1", x.low(0, 50, -1), NONE);
        Check.due("low 0 at TIME 0", x.low(0, 50, 0), 0);
        Check.due("low 1", x.low(0, 50, 1), 3);
        Check.due("low 2", x.low(0, 50, 2), NONE);
        Check.due("low of the least int", x.low(0, 50, LEAST), NONE);
        Check.due("low of the greatest int", x.low(0, 50, MOST), NONE);
        Check.due("no FINDING", x.finding(), 0);
    }

    // "NOUGHT"
    private static void lowsWithoutLights() {
        ChangingStars x = with(5);
        x.lay(0, 0, NONE);
        Check.dueFinding(x, "lows", 0, x.lows(0, 1), 4);
        Check.dueFinding(x, "low", 1, x.low(0, 1, 0), 4);
        Check.dueFinding(x, "turn", 2, x.turn(0, 1, 0, 0, 1, 1), 4);
        Check.dueFinding(x, "late", 3, x.late(0, 1, 0, 0, 1, 1), 4);
        Check.dueFinding(x, "bent", 4, x.bent(0, 1, 0, 0, 1, 1), 4);
        x.tear(0);
        Check.dueFinding(x, "lows", 0, x.lows(0, 1), 1);
        Check.dueFinding(x, "low", 1, x.low(0, 1, 0), 1);
        Check.dueFinding(x, "turn", 2, x.turn(0, 1, 0, 0, 1, 1), 1);
        Check.dueFinding(x, "late", 3, x.late(0, 1, 0, 0, 1, 1), 1);
        Check.dueFinding(x, "bent", 4, x.bent(0, 1, 0, 0, 1, 1), 1);
    }

    /** One LOW, at a TIME from 0 to 59, for depth 50. */
    private static ChangingStars withLowAt(int time) {
        ChangingStars x = with();
        x.lay(0, time, 10);
        x.lay(0, time < 30 ? 58 : 1, 90);
        x.lay(0, time < 30 ? 59 : 2, 90);
        return x;
    }

    // "(TIME less c) times q, by p, to the nearest whole"
    private static void theNearestWhole() {
        for (int time : new int[] {0, 29, 59}) {
            for (int c = 0; c <= 59; c += time == 29 ? 1 : 59) {
                for (int[] by : new int[][] {{1, 1}, {2, 1}, {7, 1}, {10, 3}, {599, 60}, {600, 60}}) {
                    ChangingStars x = withLowAt(time);
                    int k = nearest((time - c) * by[1], by[0]);
                    String clock = " of " + time + " from " + c + " by " + by[0] + ", " + by[1];
                    Check.dueTold(x, "turn" + clock, x.turn(0, 50, 0, c, by[0], by[1]), k);
                    Check.dueTold(x, "late" + clock, x.late(0, 50, 0, c, by[0], by[1]),
                            by[1] * (time - c) - k * by[0]);
                }
            }
        }
    }

    /** Of all wholes the one that is least away, of two that are alike the greater. */
    private static int nearest(int x, int p) {
        int best = -4000;
        for (int k = best; k <= 4000; k++) {
            if (Math.abs(x - k * p) <= Math.abs(x - best * p)) {
                best = k;
            }
        }
        return best;
    }

    // "(half up)"
    private static void halfIsUp() {
        // TIME less c, p, k: by q 1.
        int[][] halves = {{1, 2, 1}, {3, 2, 2}, {5, 10, 1}, {15, 10, 2}, {-1, 2, 0}, {-3, 2, -1},
            {-5, 10, 0}, {-15, 10, -1}, {4, 10, 0}, {6, 10, 1}, {-4, 10, 0}, {-6, 10, -1},
            {1, 3, 0}, {2, 3, 1}, {-1, 3, 0}, {-2, 3, -1}};
        for (int[] half : halves) {
            ChangingStars x = withLowAt(29);
            String told = half[0] + " / " + half[1];
            Check.dueTold(x, told, x.turn(0, 50, 0, 29 - half[0], half[1], 1), half[2]);
            Check.dueTold(x, "late of " + told, x.late(0, 50, 0, 29 - half[0], half[1], 1),
                    half[0] - half[2] * half[1]);
        }
    }

    // "c not 0 .. 59"
    private static void theBeginningOfAClock() {
        ChangingStars x = withLowAt(29);
        Check.dueTold(x, "c 0", x.turn(0, 50, 0, 0, 29, 1), 1);
        Check.dueTold(x, "c 59", x.turn(0, 50, 0, 59, 30, 1), -1);
        Check.dueTold(x, "c 29", x.late(0, 50, 0, 29, 600, 60), 0);
        for (int c : new int[] {-1, 60}) {
            Check.due("turn from " + c, x.turn(0, 50, 0, c, 1, 1), BAD);
            Check.due("late from " + c, x.late(0, 50, 0, c, 1, 1), BAD);
            Check.due("bent from " + c, x.bent(0, 50, 0, c, 1, 1), BAD);
        }
    }

    // "a period p by q (p 1 .. 600)", "BAD: also .. p, q"
    private static void theLeastAndTheGreatestClock() {
        ChangingStars x = withLowAt(59);
        Check.dueTold(x, "by 1 by 60", x.turn(0, 50, 0, 0, 1, 60), 3540);
        Check.dueTold(x, "by 1 by 60", x.late(0, 50, 0, 0, 1, 60), 0);
        Check.dueTold(x, "by 600 by 1", x.turn(0, 50, 0, 0, 600, 1), 0);
        Check.dueTold(x, "by 600 by 1", x.late(0, 50, 0, 0, 600, 1), 59);
        Check.dueTold(x, "by 600 by 60: 3540", x.turn(0, 50, 0, 0, 600, 60), 6);
        Check.dueTold(x, "by 600 by 60: 3540", x.late(0, 50, 0, 0, 600, 60), -60);
        int[][] bad = {{0, 1}, {601, 1}, {1, 0}, {1, 61}};
        for (int[] by : bad) {
            Check.due("turn by " + by[0] + ", " + by[1], x.turn(0, 50, 0, 0, by[0], by[1]), BAD);
            Check.due("late by " + by[0] + ", " + by[1], x.late(0, 50, 0, 0, by[0], by[1]), BAD);
            Check.due("bent by " + by[0] + ", " + by[1], x.bent(0, 50, 0, 0, by[0], by[1]), BAD);
        }
        ChangingStars first = withLowAt(0);
        Check.dueTold(first, "the least", first.turn(0, 50, 0, 59, 1, 60), -3540);
    }

    // "LATE: q times (TIME less c) less k times p"
    private static void lateIsWithinHalfATurn() {
        ChangingStars x = withLowAt(29);
        int[] due = {0, 1, 2, -3, -2, -1};
        for (int c = 0; c <= 59; c++) {
            Check.dueTold(x, "by 6 from " + c, x.late(0, 50, 0, c, 6, 1),
                    due[Math.floorMod(29 - c, 6)]);
        }
    }

    private static ChangingStars withLowsAt(int... times) {
        ChangingStars x = with();
        x.lay(0, 57, 90);
        for (int time : times) {
            x.lay(0, time, 10);
            x.lay(0, time + 1, 90);
        }
        return x;
    }

    // "LATE of the first less twice the second's and the third's"
    private static void threeLowsAreBent() {
        ChangingStars even = withLowsAt(4, 14, 24, 34);
        Check.dueTold(even, "even", even.bent(0, 50, 0, 4, 10, 1), 0);
        Check.dueTold(even, "even, but late", even.bent(0, 50, 1, 2, 10, 1), 0);
        ChangingStars x = withLowsAt(10, 21, 30, 43);
        // LATE by 10 from 10 on: 0, 1, 0, 3.
        Check.dueTold(x, "0 - 2 + 0", x.bent(0, 50, 0, 10, 10, 1), -2);
        Check.dueTold(x, "1 - 0 + 3", x.bent(0, 50, 1, 10, 10, 1), 4);
        // LATE by 30 by 3 from 10 on: 0, 3, 0, 9.
        Check.dueTold(x, "three times as much", x.bent(0, 50, 1, 10, 30, 3), 12);
        // LATE by 20 from 11 on: -1, -10, -1, -8.
        Check.dueTold(x, "-1 + 20 - 1", x.bent(0, 50, 0, 11, 20, 1), 18);
        Check.dueTold(x, "-10 + 2 - 8", x.bent(0, 50, 1, 11, 20, 1), -16);
    }

    // "NONE: not all are there"
    private static void notAllThreeAreThere() {
        for (int n = 0; n <= 5; n++) {
            int[] times = new int[n];
            for (int k = 0; k < n; k++) {
                times[k] = 5 + 10 * k;
            }
            ChangingStars x = withLowsAt(times);
            Check.due("lows", x.lows(0, 50), n);
            for (int i = -3; i <= 6; i++) {
                int want = i >= 0 && i + 2 < n ? 1 : NONE;
                Check.due("bent " + i + " of " + n, x.bent(0, 50, i, 5, 10, 1), want);
            }
            for (int i : new int[] {LEAST, MOST, MOST - 1, MOST - 2}) {
                Check.due("bent " + i + " of " + n, x.bent(0, 50, i, 5, 10, 1), NONE);
            }
        }
    }

    private static void clocksLeaveAskedBehindNone() {
        ChangingStars x = withLowsAt(10, 21);
        x.levelOf(0);
        for (int i : new int[] {-1, 2, LEAST, MOST}) {
            Check.due("turn " + i, x.turn(0, 50, i, 0, 10, 1), NONE);
            Check.due("late " + i, x.late(0, 50, i, 0, 10, 1), NONE);
            Check.due("bent " + i, x.bent(0, 50, i, 0, 10, 1), NONE);
        }
        Check.due("bent 0 of two", x.bent(0, 50, 0, 0, 10, 1), NONE);
        Check.due("asked() is that of levelOf()", x.asked(), 90);
        Check.dueTold(x, "a LATE of 0 is told", x.late(0, 50, 0, 0, 10, 1), 0);
    }

    // "RULES 0, 1, .. (10 at most)", "A RULE behind the others: its number."
    private static void tenRules() {
        ChangingStars x = with(50);
        for (int n = 0; n < 10; n++) {
            Check.due("no RULE fits yet", x.classOf(0), NONE);
            Check.due("rule " + n, x.rule(0, n == 9 ? 50 : 60, 60, n), n);
        }
        Check.due("the last one fits", x.classOf(0), 9);
        Check.due("an 11th", x.rule(0, 50, 50, 1), FULL);
        Check.due("no CLASS, ahead of FULL", x.rule(0, 50, 50, 10), BAD);
        Check.due("low above high, ahead of FULL", x.rule(0, 51, 50, 1), BAD);
        Check.due("count(3)", x.count(3), 10);
        Check.due("nothing is changed", x.classOf(0), 9);
        Check.due("FULL is no FINDING", x.finding(), 0);
    }

    // "BAD: what, CLASS; low above high"
    private static void whatIsNoRule() {
        ChangingStars x = with(50);
        Check.due("what -1", x.rule(-1, 0, 100, 1), BAD);
        Check.due("what 4", x.rule(4, 0, 100, 1), BAD);
        Check.due("CLASS -1", x.rule(0, 0, 100, -1), BAD);
        Check.due("CLASS 10", x.rule(0, 0, 100, 10), BAD);
        Check.due("CLASS NONE", x.rule(0, 0, 100, NONE), BAD);
        Check.due("low above high by one", x.rule(0, 51, 50, 1), BAD);
        Check.due("the greatest above the least", x.rule(0, MOST, LEAST, 1), BAD);
        Check.due("count(3)", x.count(3), 0);
        Check.due("no RULE is there", x.classOf(0), NONE);
        Check.due("low is high", x.rule(0, 50, 50, 1), 0);
        Check.due("it fits", x.classOf(0), 1);
    }

    // "is from low to high"
    private static void fromLowToHigh() {
        ChangingStars x = with(0);
        x.rule(0, 50, 52, 7);
        for (int v = 48; v <= 54; v++) {
            x.lay(0, 0, v);
            Check.due("LEVEL " + v, x.classOf(0), v >= 50 && v <= 52 ? 7 : NONE);
        }
    }

    private static void theLeastAndTheGreatestRule() {
        for (int what = 0; what <= 3; what++) {
            ChangingStars x = with(0, 10000);
            x.foot(0, 10000);
            x.foot(1, -10000);
            Check.due("none so small", x.rule(what, LEAST, -10001, 1), 0);
            Check.due("none so great", x.rule(what, 30001, MOST, 2), 1);
            Check.due("neither fits", x.classOf(0), NONE);
            Check.due("all", x.rule(what, LEAST, MOST, 3), 2);
            Check.due("it fits", x.classOf(0), 3);
        }
        ChangingStars x = with(0);
        x.foot(0, 10000);
        x.rule(0, -10000, -10000, 4);
        Check.due("LEVEL -10000", x.classOf(0), 4);
        x.lay(0, 1, 10000);
        x.foot(1, -10000);
        x.rule(1, 30000, 30000, 5);
        Check.due("a difference of 30000", x.classOf(0), 5);
    }

    // "the first RULE that fits"
    private static void theFirstRuleThatFits() {
        ChangingStars x = with(50, 60);
        x.rule(1, 11, 99, 1);
        x.rule(2, 2, 2, 2);
        x.rule(0, 60, 60, 3);
        x.rule(1, 10, 10, 4);
        Check.due("rule 1", x.classOf(0), 2);
        x.lay(0, 2, 60);
        Check.due("rule 2", x.classOf(0), 3);
        x.lay(0, 2, 61);
        Check.due("rule 0", x.classOf(0), 1);
    }

    // "then the CLASS (0 .. 9)", "None: NONE."
    private static void theFirstAndTheLastClass() {
        ChangingStars x = with(50);
        Check.due("without RULES", x.classOf(0), NONE);
        Check.due("rule of CLASS 0", x.rule(2, 1, 1, 0), 0);
        Check.due("rule of CLASS 9", x.rule(2, 2, 2, 9), 1);
        Check.due("CLASS 0", x.classOf(0), 0);
        x.lay(0, 1, 50);
        Check.due("CLASS 9", x.classOf(0), 9);
        x.lay(0, 2, 50);
        Check.due("none fits", x.classOf(0), NONE);
        Check.due("no FINDING", x.finding(), 0);
    }

    // "BAD; NOTHING; NOUGHT: no lights"
    private static void classWithoutLights() {
        ChangingStars x = with();
        for (int what = 0; what <= 3; what++) {
            x.rule(what, LEAST, MOST, what);
        }
        Check.dueFinding(x, "without lights", 0, x.classOf(0), 4);
        x.tear(0);
        Check.dueFinding(x, "without a ROW", 0, x.classOf(0), 1);
        Check.due("no STAR", x.classOf(1), BAD);
    }

    // "2 how many lights it has, 3 how many LOWS for depth 100"
    private static void rulesByCountsAndLows() {
        ChangingStars x = with();
        x.rule(3, 1, 29, 1);
        x.rule(3, 30, 30, 2);
        x.rule(2, 60, 60, 3);
        x.rule(2, 59, 59, 4);
        for (int night = 0; night < 60; night++) {
            x.lay(0, night, 500);
        }
        Check.due("60 lights", x.classOf(0), 3);
        x.lay(0, 30, NONE);
        Check.due("59 lights", x.classOf(0), 4);
        x.lay(0, 30, 401);
        Check.due("99 below is no LOW", x.classOf(0), 3);
        x.lay(0, 30, 400);
        Check.due("100 below is one", x.classOf(0), 1);
        for (int night = 0; night < 60; night += 2) {
            x.lay(0, night, 400);
        }
        Check.due("30 LOWS", x.classOf(0), 2);
    }

    // "not as it was at the watch() before (at first NONE)"
    private static void watchAtFirst() {
        ChangingStars x = with(50);
        Check.due("NONE as at first", x.watch(), 0);
        Check.due("no ALARM", x.alarms(), 0);
        ChangingStars other = with(50);
        other.rule(2, 1, 1, 0);
        Check.due("CLASS 0 is not NONE", other.watch(), 1);
        Check.due("an ALARM", other.alarms(), 1);
        Check.due("once", other.watch(), 0);
    }

    // "(a STAR whose ROW is missing, or has no lights, has CLASS NONE)"
    private static void watchWithoutLights() {
        ChangingStars x = new ChangingStars();
        for (int what = 0; what <= 3; what++) {
            x.rule(what, LEAST, MOST, what);
        }
        x.star(0);
        Check.starWith(x, 1);
        Check.starWith(x, 2, 5);
        Check.starWith(x, 3, 5);
        Check.due("neither has a CLASS", x.watch(), 2);
        Check.due("alarms()", x.alarms(), 4 + 8);
        x.tear(2);
        x.lay(3, 0, NONE);
        Check.due("both are NONE again", x.watch(), 2);
        Check.due("alarms()", x.alarms(), 4 + 8);
        Check.due("they stay", x.watch(), 0);
        Check.due("no FINDING", x.finding(), 0);
        for (int f = 1; f <= 5; f++) {
            Check.due("findings(" + f + ")", x.findings(f), 0);
        }
    }

    private static void watchAStarThatIsNew() {
        ChangingStars x = with(50);
        x.rule(2, 1, 1, 6);
        x.watch();
        x.watch();
        Check.starWith(x, 0, 50);
        Check.due("the new one was NONE", x.watch(), 1);
        Check.due("alarms()", x.alarms(), 2);
    }

    private static void watchAClassThatIsLeft() {
        ChangingStars x = with(50);
        x.rule(0, 50, 50, 1);
        x.rule(0, 60, 60, 2);
        x.watch();
        x.lay(0, 0, 60);
        x.lay(0, 0, 50);
        Check.due("left and come back in between", x.watch(), 0);
        x.lay(0, 0, 60);
        Check.due("from 1 to 2", x.watch(), 1);
        x.foot(0, 10);
        Check.due("back by a FOOTING", x.watch(), 1);
        x.lay(0, 0, 71);
        Check.due("to none", x.watch(), 1);
        x.row(0);
        Check.due("none and none", x.watch(), 0);
        Check.due("count(4)", x.count(4), 6);
    }

    private static void watchBehindANewRule() {
        ChangingStars x = with(50);
        x.rule(0, 60, 60, 1);
        Check.due("it does not fit", x.watch(), 0);
        x.rule(0, 50, 50, 2);
        Check.due("a RULE that fits", x.watch(), 1);
        x.rule(0, 50, 50, 3);
        Check.due("one behind it", x.watch(), 0);
    }

    // "STARS (bits) with an ALARM"
    private static void alarmsOfAll() {
        ChangingStars x = new ChangingStars();
        for (int n = 0; n < 12; n++) {
            Check.starWith(x, n % 4, n);
        }
        x.rule(0, 0, 11, 0);
        Check.due("watch()", x.watch(), 12);
        Check.due("all twelve bits", x.alarms(), 4095);
        x.tear(0);
        x.tear(11);
        Check.due("watch()", x.watch(), 2);
        Check.due("the first bit and the last", x.alarms(), 2049);
    }

    // "by the latest watch(); 0 before"
    private static void alarmsOfTheLatestWatch() {
        ChangingStars x = with(50);
        x.rule(0, 50, 50, 1);
        Check.due("before", x.alarms(), 0);
        x.classOf(0);
        Check.due("classOf() is no watch()", x.alarms(), 0);
        x.watch();
        x.tear(0);
        Check.due("as at the latest", x.alarms(), 1);
        x.classOf(0);
        x.star(4);
        Check.due("a refusal leaves it", x.alarms(), 1);
        x.watch();
        x.watch();
        Check.due("none by the latest", x.alarms(), 0);
    }
}
