/** Promises 32 to 36: what is told. */
public final class ToldTest {
    private static final int BAD = ChangingStars.BAD;
    private static final int NONE = ChangingStars.NONE;

    public static void main(String[] args) {
        promise32Asked();
        promise32AskedStays();
        promise33Count();
        promise34Finding();
        promise35Findings();
        promise36Digest();
        refusedChangesNothing();
        Check.end();
    }

    /** LEVEL 100, mean 88, LOWS for depth 50 at 2, 5 and 9. */
    private static ChangingStars withLights() {
        ChangingStars x = new ChangingStars();
        Check.starWith(x, 3, 100, 100, 50, 101, 100, 40, 100, 101, 100, 45, 99, 100);
        return x;
    }

    private static void promise32Asked() {
        ChangingStars x = withLights();
        x.foot(3, 7);
        Check.due("before", x.asked(), 0);
        Check.dueTold(x, "light", x.light(0, 3), 94);
        Check.dueTold(x, "footing", x.footing(3), 7);
        Check.dueTold(x, "levelOf", x.levelOf(0), 100);
        Check.dueTold(x, "mean", x.mean(0), 1029 / 12);
        Check.dueTold(x, "string", x.string(0, 600, 1),
                50 + 44 + 6 + 60 + 60 + 1 + 1 + 55 + 54 + 1);
        Check.due("period", x.period(0, 1, 600, 600), 600);
        Check.due("asked() behind period", x.asked(), 332);
        Check.dueTold(x, "depth", x.depth(0, 600, 2, 2), 885 * 2 - 144 * 10);
        Check.dueTold(x, "turn", x.turn(0, 50, 2, 2, 3, 1), 2);
        Check.dueTold(x, "late", x.late(0, 50, 2, 2, 3, 1), 1);
        // LATE: 0, 3, -3.
        Check.dueTold(x, "bent", x.bent(0, 50, 0, 2, 10, 1), 0 - 6 - 3);
    }

    private static void promise32AskedStays() {
        ChangingStars x = withLights();
        x.levelOf(0);
        x.light(0, 12);
        x.light(0, 60);
        x.light(1, 0);
        x.footing(60);
        x.levelOf(1);
        x.mean(1);
        x.string(0, 0, 1);
        x.period(0, 1, 2, 1);
        x.asWell(0, 1, 1, 9, 10);
        x.depth(0, 600, 1, 599);
        x.depth(0, 600, 1, 600);
        x.dip(0, 7, 3);
        x.dipOf(0);
        x.lows(0, 50);
        x.low(0, 50, 1);
        x.turn(0, 50, 3, 0, 1, 1);
        x.late(0, 50, 3, 0, 1, 1);
        x.bent(0, 50, 1, 0, 1, 1);
        x.at(0, 2);
        x.phase(7, 5, 1);
        x.mark(0, 3);
        x.classOf(0);
        x.watch();
        x.level();
        x.count(2);
        x.digest();
        Check.due("asked() is that of levelOf()", x.asked(), 100);
    }

    private static void promise33Count() {
        ChangingStars x = new ChangingStars();
        Check.starWith(x, 0, 1, NONE, 0);
        Check.starWith(x, 1, 4);
        x.star(2);
        x.rule(0, 0, 0, 0);
        x.watch();
        x.watch();
        x.star(4);
        x.rule(4, 0, 0, 0);
        int[] dues = {3, 2, 3, 1, 2};
        for (int what = 0; what < dues.length; what++) {
            Check.due("count(" + what + ")", x.count(what), dues[what]);
        }
        x.tear(0);
        Check.due("count(1) behind tear", x.count(1), 1);
        Check.due("count(2) behind tear", x.count(2), 1);
        for (int what : new int[] {-1, 5, Integer.MAX_VALUE, Integer.MIN_VALUE}) {
            Check.due("count(" + what + ")", x.count(what), BAD);
        }
    }

    private static void promise34Finding() {
        ChangingStars x = new ChangingStars();
        x.star(1);
        x.star(9);
        Check.due("before any", x.finding(), 0);
        x.copy(0, 0, 0, 0, -1);
        Check.due("SIZE", x.finding(), 5);
        x.mark(0, 2);
        Check.due("UNLIKE", x.finding(), 3);
        x.at(0, 0);
        Check.due("NOTHING", x.finding(), 1);
        x.row(0);
        x.mean(0);
        Check.due("NOUGHT", x.finding(), 4);
        x.at(0, 60);
        Check.due("BEYOND", x.finding(), 2);
        x.at(0, 1);
        x.at(1, 1);
        x.findings(0);
        Check.due("it stays", x.finding(), 2);
    }

    private static void promise35Findings() {
        ChangingStars x = new ChangingStars();
        x.star(1);
        x.at(0, 0);
        x.mark(0, 2);
        x.mark(0, 3);
        x.mark(0, 3);
        x.copy(0, 0, 0, 0, -1);
        x.copy(0, 0, 0, 0, -1);
        x.row(0);
        x.mean(0);
        x.levelOf(0);
        x.lows(0, 1);
        x.classOf(0);
        for (int n = 0; n < 5; n++) {
            x.at(0, 60);
        }
        int[] dues = {1, 5, 3, 4, 2};
        for (int f = 1; f <= 5; f++) {
            Check.due("findings(" + f + ")", x.findings(f), dues[f - 1]);
        }
        for (int f : new int[] {0, -1, 6, Integer.MAX_VALUE, Integer.MIN_VALUE}) {
            Check.due("findings(" + f + ")", x.findings(f), BAD);
        }
        Check.due("BAD is no FINDING", x.findings(1), 1);
    }

    private static long onto(long h, int... values) {
        for (int v : values) {
            h = 31 * h + v;
        }
        return h;
    }

    private static long ontoSame(long h, int times, int v) {
        for (int n = 0; n < times; n++) {
            h = 31 * h + v;
        }
        return h;
    }

    private static void promise36Digest() {
        ChangingStars x = new ChangingStars();
        Check.due("digest of a new one", x.digest(), ontoSame(17, 60, 0));
        x.star(3);
        Check.due("of a missing ROW", x.digest(), onto(ontoSame(onto(17, 3, -1), 60, 0), NONE));
        Check.starWith(x, 2, 6, NONE, 8);
        x.foot(0, 4);
        x.rule(0, 0, 10000, 7);
        long lights = ontoSame(onto(17, 3, -1, 2, 6, NONE, 8), 57, NONE);
        long footings = ontoSame(onto(lights, 4), 59, 0);
        Check.due("ahead of watch()", x.digest(), onto(footings, NONE, NONE));
        x.classOf(1);
        Check.due("classOf() is no watch()", x.digest(), onto(footings, NONE, NONE));
        x.watch();
        Check.due("behind watch()", x.digest(), onto(footings, NONE, 7));
        x.tear(1);
        long torn = ontoSame(onto(17, 3, -1, 2, -1, 4), 59, 0);
        Check.due("CLASS as at the latest watch()", x.digest(), onto(torn, NONE, 7));
        x.watch();
        Check.due("NONE again", x.digest(), onto(torn, NONE, NONE));
    }

    private static void refusedChangesNothing() {
        ChangingStars x = withLights();
        x.rule(0, 0, 10000, 7);
        x.watch();
        long before = x.digest();
        x.lay(0, 60, 1);
        x.lay(0, 0, 10001);
        x.copy(0, 0, 0, 1, 60);
        x.copy(0, 0, 0, 1, -1);
        x.foot(0, 10001);
        x.star(4);
        x.rule(0, 1, 0, 0);
        x.mark(0, 1);
        Check.due("digest()", x.digest(), before);
        Check.due("alarms()", x.alarms(), 1);
        Check.due("count(0)", x.count(0), 1);
        Check.due("count(3)", x.count(3), 1);
    }
}
