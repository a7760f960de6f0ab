/** Promises 23 to 31: lows, clocks, rules, classes, alarms. */
public final class LowsClassesTest {
    private static final int BAD = ChangingStars.BAD;
    private static final int NONE = ChangingStars.NONE;
    private static final int NOTHING = 1;
    private static final int NOUGHT = 4;
    private static final int[] NO_STARS = {-1, 1, 12, Integer.MAX_VALUE, Integer.MIN_VALUE};
    private static final int[] NO_DEPTHS = {0, -1, 10001, Integer.MAX_VALUE, Integer.MIN_VALUE};
    private static final int[] NO_LOWS = {-1, 3, 60, Integer.MAX_VALUE, Integer.MIN_VALUE};

    /** turn(), late() and bent() are refused alike. */
    private interface OnClock {
        int call(int star, int d, int i, int c, int p, int q);
    }

    public static void main(String[] args) {
        promise23Lows();
        promise24Low();
        promises23And24Refused();
        promise25Turn();
        promise26Late();
        promise27Bent();
        ChangingStars x = new ChangingStars();
        onClockRefused("turn", x, x::turn);
        x = new ChangingStars();
        onClockRefused("late", x, x::late);
        x = new ChangingStars();
        onClockRefused("bent", x, x::bent);
        promise28Rule();
        promise29ClassOf();
        promise29EachMeasure();
        promise30Watch();
        promise31Alarms();
        Check.end();
    }

    private static void promise23Lows() {
        ChangingStars x = new ChangingStars();
        int star = Check.starWith(x, 0, 90, 100, 89, NONE, 88, 100, 100, 90, 91, 100, 100, 80,
                100, 100, 100, 100);
        Check.due("at LEVEL less d or below", x.lows(star, 10), 4);
        Check.due("for 11", x.lows(star, 11), 2);
        Check.due("for 12", x.lows(star, 12), 2);
        Check.due("for 13", x.lows(star, 13), 1);
        Check.due("for 20", x.lows(star, 20), 1);
        Check.due("for 21", x.lows(star, 21), 0);
        Check.due("for 10000", x.lows(star, 10000), 0);
        x.foot(1, 10);
        Check.due("one run out of two by a FOOTING", x.lows(star, 10), 3);
        Check.due("asked() stays", x.asked(), 0);
    }

    private static void promise24Low() {
        ChangingStars x = new ChangingStars();
        int star = Check.starWith(x, 0, 100, 80, 70, NONE, 70, 75, 100, 100, 100, 60, 100, 100, 100);
        x.lay(star, 59, 50);
        Check.due("of like ones the first", x.low(star, 20, 0), 2);
        Check.due("low 1", x.low(star, 20, 1), 9);
        Check.due("low 2", x.low(star, 20, 2), 59);
        Check.due("low 1 for 40", x.low(star, 40, 1), 59);
        for (int i : NO_LOWS) {
            Check.due("low " + i, x.low(star, 20, i), NONE);
        }
        x.foot(5, 10);
        Check.due("least by LIGHT", x.low(star, 20, 0), 5);
    }

    private static void promises23And24Refused() {
        ChangingStars x = new ChangingStars();
        x.star(0);
        for (int star : NO_STARS) {
            Check.due("lows(" + star + ", 1)", x.lows(star, 1), BAD);
            Check.due("low(" + star + ", 1, 0)", x.low(star, 1, 0), BAD);
        }
        for (int d : NO_DEPTHS) {
            Check.due("lows(0, " + d + ")", x.lows(0, d), BAD);
            Check.due("low(0, " + d + ", 0)", x.low(0, d, 0), BAD);
        }
        Check.dueFinding(x, "lows(0, 1)", 0, x.lows(0, 1), NOTHING);
        Check.dueFinding(x, "low(0, 1, 0)", 1, x.low(0, 1, 0), NOTHING);
        x.row(0);
        Check.dueFinding(x, "lows(0, 10000)", 0, x.lows(0, 10000), NOUGHT);
        Check.dueFinding(x, "low(0, 10000, -1)", 1, x.low(0, 10000, -1), NOUGHT);
    }

    /** LOWS for depth 50 at TIMES 5, 12 and 26. */
    private static ChangingStars withThreeLows() {
        ChangingStars x = new ChangingStars();
        x.star(3);
        x.row(0);
        for (int night = 0; night < 30; night++) {
            x.lay(0, night, night == 5 || night == 12 || night == 26 ? 10 : 100);
        }
        return x;
    }

    private static void promise25Turn() {
        ChangingStars x = withThreeLows();
        Check.dueTold(x, "(5 - 5) / 7", x.turn(0, 50, 0, 5, 7, 1), 0);
        Check.dueTold(x, "(12 - 5) / 7", x.turn(0, 50, 1, 5, 7, 1), 1);
        Check.dueTold(x, "21 / 14 is half: up", x.turn(0, 50, 2, 5, 14, 1), 2);
        Check.dueTold(x, "42 / 8", x.turn(0, 50, 2, 5, 8, 2), 5);
        Check.dueTold(x, "20 / 7", x.turn(0, 50, 2, 6, 7, 1), 3);
        Check.dueTold(x, "-1 / 2 is half: up", x.turn(0, 50, 0, 6, 2, 1), 0);
        Check.dueTold(x, "-3 / 2 is half: up", x.turn(0, 50, 0, 8, 2, 1), -1);
        Check.dueTold(x, "-2 / 3", x.turn(0, 50, 0, 7, 3, 1), -1);
        Check.dueTold(x, "-1 / 3", x.turn(0, 50, 0, 6, 3, 1), 0);
        Check.dueTold(x, "-54 * 60 / 1", x.turn(0, 50, 0, 59, 1, 60), -3240);
        Check.dueTold(x, "26 * 60 / 600", x.turn(0, 50, 2, 0, 600, 60), 3);
        dueNoLow(x, "turn", 3, x::turn);
    }

    private static void promise26Late() {
        ChangingStars x = withThreeLows();
        Check.dueTold(x, "on time", x.late(0, 50, 1, 5, 7, 1), 0);
        Check.dueTold(x, "20 - 3 * 7", x.late(0, 50, 2, 6, 7, 1), -1);
        Check.dueTold(x, "21 - 2 * 14", x.late(0, 50, 2, 5, 14, 1), -7);
        Check.dueTold(x, "42 - 5 * 8", x.late(0, 50, 2, 5, 8, 2), 2);
        Check.dueTold(x, "-1 - 0 * 2", x.late(0, 50, 0, 6, 2, 1), -1);
        Check.dueTold(x, "-2 + 3", x.late(0, 50, 0, 7, 3, 1), 1);
        Check.dueTold(x, "1560 - 3 * 600", x.late(0, 50, 2, 0, 600, 60), -240);
        dueNoLow(x, "late", -240, x::late);
    }

    private static void promise27Bent() {
        ChangingStars x = withThreeLows();
        Check.dueTold(x, "an even clock", x.bent(0, 50, 0, 5, 7, 1), 0);
        // LATE by 10 from 5: 0, -3, 1.
        Check.dueTold(x, "0 + 6 + 1", x.bent(0, 50, 0, 5, 10, 1), 7);
        // LATE by 16 by 1 from 3: 2, -7, 7.
        Check.dueTold(x, "2 + 14 + 7", x.bent(0, 50, 0, 3, 16, 1), 23);
        // LATE by 25 by 2 from 0: 10, -1, 2.
        Check.dueTold(x, "10 + 2 + 2", x.bent(0, 50, 0, 0, 25, 2), 14);
        for (int i : new int[] {-2, -1, 1, 2, 3, Integer.MAX_VALUE, Integer.MAX_VALUE - 1}) {
            Check.due("bent from LOW " + i, x.bent(0, 50, i, 5, 7, 1), NONE);
        }
        x.lay(0, 29, 10);
        // LATE by 10 from 5: 0, -3, 1, 4.
        Check.dueTold(x, "-3 - 2 + 4", x.bent(0, 50, 1, 5, 10, 1), -1);
        dueNoLow(x, "bent", -1, x::bent);
    }

    private static void dueNoLow(ChangingStars x, String name, long told, OnClock clock) {
        for (int i : new int[] {-1, 4, 60, Integer.MAX_VALUE, Integer.MIN_VALUE}) {
            Check.due(name + " of LOW " + i, clock.call(0, 50, i, 5, 7, 1), NONE);
        }
        Check.due("asked() stays behind " + name, x.asked(), told);
    }

    private static void onClockRefused(String name, ChangingStars x, OnClock clock) {
        x.star(0);
        for (int star : NO_STARS) {
            Check.due(name + " of STAR " + star, clock.call(star, 1, 0, 0, 1, 1), BAD);
        }
        for (int d : NO_DEPTHS) {
            Check.due(name + " for depth " + d, clock.call(0, d, 0, 0, 1, 1), BAD);
        }
        for (int c : new int[] {-1, 60, Integer.MAX_VALUE, Integer.MIN_VALUE}) {
            Check.due(name + " from " + c, clock.call(0, 1, 0, c, 1, 1), BAD);
        }
        for (int p : new int[] {0, -1, 601, Integer.MAX_VALUE, Integer.MIN_VALUE}) {
            Check.due(name + " by p " + p, clock.call(0, 1, 0, 0, p, 1), BAD);
        }
        for (int q : new int[] {0, -1, 61, Integer.MAX_VALUE, Integer.MIN_VALUE}) {
            Check.due(name + " by q " + q, clock.call(0, 1, 0, 0, 1, q), BAD);
        }
        Check.dueFinding(x, name, 0, clock.call(0, 1, -1, 59, 600, 60), NOTHING);
        x.row(0);
        Check.dueFinding(x, name, 0, clock.call(0, 10000, -1, 59, 600, 60), NOUGHT);
    }

    private static void promise28Rule() {
        ChangingStars x = new ChangingStars();
        for (int what : new int[] {-1, 4, Integer.MAX_VALUE, Integer.MIN_VALUE}) {
            Check.due("rule(" + what + ", ..)", x.rule(what, 0, 0, 0), BAD);
        }
        for (int clas : new int[] {-1, 10, NONE, Integer.MAX_VALUE, Integer.MIN_VALUE}) {
            Check.due("rule of CLASS " + clas, x.rule(0, 0, 0, clas), BAD);
        }
        Check.due("low above high", x.rule(0, 1, 0, 0), BAD);
        for (int n = 0; n < 10; n++) {
            Check.due("rule " + n, x.rule(n % 4, Integer.MIN_VALUE, Integer.MAX_VALUE, n), n);
            Check.due("count(3)", x.count(3), n + 1);
        }
        Check.due("an 11th", x.rule(0, 0, 0, 0), ChangingStars.FULL);
        Check.due("BAD is ahead of FULL", x.rule(0, 1, 0, 0), BAD);
        Check.due("count(3)", x.count(3), 10);
    }

    private static void promise29ClassOf() {
        ChangingStars x = new ChangingStars();
        x.star(0);
        x.rule(2, 0, 0, 9);
        for (int star : NO_STARS) {
            Check.due("classOf(" + star + ")", x.classOf(star), BAD);
        }
        Check.dueFinding(x, "classOf of a missing ROW", 0, x.classOf(0), NOTHING);
        x.row(0);
        Check.dueFinding(x, "classOf without lights", 0, x.classOf(0), NOUGHT);
        x.lay(0, 9, 50);
        Check.due("no RULE fits", x.classOf(0), NONE);
        x.rule(0, 51, 99, 1);
        x.rule(0, 0, 49, 2);
        Check.due("no RULE fits", x.classOf(0), NONE);
        x.rule(0, 50, 50, 3);
        Check.due("the one that fits", x.classOf(0), 3);
        x.rule(0, 0, 99, 4);
        Check.due("the first that fits", x.classOf(0), 3);
        x.foot(9, 1);
        Check.due("by LEVEL of LIGHTS", x.classOf(0), 2);
        Check.due("asked() stays", x.asked(), 0);
    }

    private static void promise29EachMeasure() {
        int[] dues = {950, 550, 8, 3};
        for (int what = 0; what < 4; what++) {
            ChangingStars x = new ChangingStars();
            // LEVEL 950, greatest 1000, least 450; LOWS of 850 or below: 3.
            Check.starWith(x, 0, 1000, 850, 950, 849, 950, 851, 450, 960);
            x.rule(what, dues[what] + 1, Integer.MAX_VALUE, 1);
            x.rule(what, Integer.MIN_VALUE, dues[what] - 1, 2);
            Check.due("measure " + what + " is not beside", x.classOf(0), NONE);
            x.rule(what, dues[what], dues[what], 0);
            Check.due("measure " + what, x.classOf(0), 0);
        }
    }

    private static void promise30Watch() {
        ChangingStars x = new ChangingStars();
        Check.due("watch() of no STARS", x.watch(), 0);
        Check.starWith(x, 0, 50);
        Check.starWith(x, 1, 70);
        Check.starWith(x, 2);
        x.star(3);
        Check.due("NONE at first, no RULES", x.watch(), 0);
        x.rule(0, 60, 80, 1);
        x.rule(0, 0, 59, 0);
        Check.due("both are in CLASSES", x.watch(), 2);
        Check.due("nothing is new", x.watch(), 0);
        x.lay(0, 0, 75);
        Check.due("one is in another", x.watch(), 1);
        x.tear(0);
        x.row(1);
        Check.due("torn, and without lights", x.watch(), 2);
        Check.due("alarms()", x.alarms(), 3);
        Check.due("count(4)", x.count(4), 6);
        Check.due("watch() finds nothing", x.finding(), 0);
        x.row(0);
        x.lay(0, 0, 75);
        x.classOf(0);
        Check.due("classOf() is no watch()", x.watch(), 1);
        x.foot(0, 70);
        Check.due("by LIGHTS", x.watch(), 1);
    }

    private static void promise31Alarms() {
        ChangingStars x = new ChangingStars();
        Check.due("alarms() before", x.alarms(), 0);
        for (int n = 0; n < 12; n++) {
            Check.starWith(x, 0, n);
        }
        x.rule(0, 3, 3, 5);
        x.rule(0, 11, 11, 5);
        Check.due("alarms() ahead of watch()", x.alarms(), 0);
        Check.due("watch()", x.watch(), 2);
        Check.due("alarms()", x.alarms(), 1 << 3 | 1 << 11);
        x.lay(3, 0, 4);
        Check.due("those of the latest stay", x.alarms(), 1 << 3 | 1 << 11);
        x.watch();
        Check.due("alarms()", x.alarms(), 1 << 3);
        x.watch();
        Check.due("none", x.alarms(), 0);
    }
}
