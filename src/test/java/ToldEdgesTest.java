/**
 * The edges that the document names for what is told: promises 32 to 36. Each test stands below the
 * words that it holds.
 */
public final class ToldEdgesTest {
    private static final int BAD = ChangingStars.BAD;
    private static final int FINDING = ChangingStars.FINDING;
    private static final int NONE = ChangingStars.NONE;

    /** A call that tells by asked(). */
    private interface Telling {
        int call(ChangingStars x);
    }

    public static void main(String[] args) {
        askedBefore();
        everyTellingCallTells();
        askedOfNought();
        noOtherCallTells();
        askedStaysBehindRefusals();
        countsOfNone();
        countsOfAll();
        countOfWatches();
        findingBeforeAny();
        theLatestFinding();
        whatIsNoFinding();
        findingsOfEach();
        digestOfNone();
        digestOfEachStar();
        digestOfLightsAndNone();
        digestOfFootings();
        digestOfClasses();
        digestWrapsAround();
        digestIsNotChangedByAsking();
        the512thCall();
        Check.end();
    }

    /** LEVEL 100, LOWS for depth 50 at 2, 5 and 9; STAR 1 has no lights, STAR 2 no ROW. */
    private static ChangingStars object() {
        ChangingStars x = new ChangingStars();
        Check.starWith(x, 3, 100, 100, 50, 101, 100, 40, 100, 101, 100, 45, 99, 100);
        Check.starWith(x, 3);
        x.star(3);
        x.foot(3, 7);
        return x;
    }

    // "0 before"
    private static void askedBefore() {
        ChangingStars x = object();
        Check.due("asked()", x.asked(), 0);
        x.light(0, 59);
        x.light(0, 60);
        x.levelOf(2);
        Check.due("nothing was told yet", x.asked(), 0);
    }

    // "What the latest light(), footing(), .. told"
    private static void everyTellingCallTells() {
        Telling[] calls = {x -> x.light(0, 3), x -> x.footing(3), x -> x.levelOf(0), x -> x.mean(0),
            x -> x.string(0, 600, 1), x -> x.period(0, 1, 600, 600), x -> x.depth(0, 600, 2, 2),
            x -> x.turn(0, 50, 2, 2, 3, 1), x -> x.late(0, 50, 2, 2, 3, 1),
            x -> x.bent(0, 50, 0, 2, 10, 1)};
        long[] due = {94, 7, 100, 85, 332, 332, 330, 2, 1, -9};
        ChangingStars x = object();
        for (int k = 0; k < calls.length; k++) {
            for (int before = 0; before < calls.length; before++) {
                calls[before].call(x);
                Check.due("call " + k, calls[k].call(x), k == 5 ? 600 : 1);
                Check.due("asked() of call " + k + " behind " + before, x.asked(), due[k]);
            }
        }
    }

    private static void askedOfNought() {
        Telling[] calls = {x -> x.light(0, 20), x -> x.footing(5), x -> x.levelOf(1),
            x -> x.mean(1), x -> x.string(1, 600, 1), x -> x.period(1, 1, 1, 600),
            x -> x.depth(1, 2, 1, 0), x -> x.turn(0, 50, 0, 2, 3, 1), x -> x.late(0, 50, 0, 2, 3, 1),
            x -> x.bent(0, 50, 0, 5, 1, 1)};
        ChangingStars x = object();
        x.lay(0, 20, 0);
        x.lay(1, 0, 0);
        x.lay(1, 1, 0);
        for (int k = 0; k < calls.length; k++) {
            x.footing(3);
            Check.due("call " + k, calls[k].call(x), 1);
            Check.due("0 is told by call " + k, x.asked(), 0);
        }
    }

    private static void noOtherCallTells() {
        Telling[] calls = {x -> x.star(0), x -> x.is(0, 0), x -> x.mark(0, 3), x -> x.row(1),
            x -> x.lay(0, 0, 100), x -> x.at(0, 5), x -> x.copy(0, 0, 0, 0, 60), x -> x.foot(3, 7),
            x -> x.phase(59, 7, 1), x -> x.asWell(0, 1, 1, 600, 100), x -> x.dip(0, 7, 3),
            x -> x.dipOf(2), x -> x.lows(0, 50), x -> x.low(0, 50, 1), x -> x.rule(0, 0, 999, 5),
            x -> x.classOf(0), ChangingStars::watch, ChangingStars::alarms, x -> x.count(2),
            ChangingStars::finding, x -> x.findings(1), x -> (int) x.digest(), x -> x.tear(1),
            ChangingStars::level};
        ChangingStars x = object();
        x.footing(3);
        for (int k = 0; k < calls.length; k++) {
            Check.dueTrue("call " + k + " is not refused", calls[k].call(x) != FINDING);
            Check.due("asked() behind call " + k, x.asked(), 7);
        }
    }

    // "that was not refused (nor NONE)"
    private static void askedStaysBehindRefusals() {
        Telling[] calls = {x -> x.light(0, 59), x -> x.light(0, 60), x -> x.light(2, 0),
            x -> x.light(3, 0), x -> x.footing(60), x -> x.levelOf(1), x -> x.levelOf(2),
            x -> x.levelOf(3), x -> x.mean(1), x -> x.mean(2), x -> x.mean(3),
            x -> x.string(2, 1, 1), x -> x.string(0, 601, 1), x -> x.period(2, 1, 1, 9),
            x -> x.period(0, 1, 9, 8), x -> x.depth(0, 600, 1, 599), x -> x.depth(0, 600, 12, 0),
            x -> x.depth(1, 2, 1, 0), x -> x.depth(2, 2, 1, 0), x -> x.depth(0, 2, 2, 0),
            x -> x.turn(0, 50, 3, 0, 1, 1), x -> x.turn(1, 50, 0, 0, 1, 1),
            x -> x.turn(2, 50, 0, 0, 1, 1), x -> x.turn(0, 50, 0, 60, 1, 1),
            x -> x.late(0, 50, 3, 0, 1, 1), x -> x.late(1, 50, 0, 0, 1, 1),
            x -> x.late(2, 50, 0, 0, 1, 1), x -> x.late(0, 0, 0, 0, 1, 1),
            x -> x.bent(0, 50, 1, 0, 1, 1), x -> x.bent(1, 50, 0, 0, 1, 1),
            x -> x.bent(2, 50, 0, 0, 1, 1), x -> x.bent(0, 50, 0, 0, 0, 1)};
        ChangingStars x = object();
        x.footing(3);
        for (int k = 0; k < calls.length; k++) {
            Check.dueTrue("call " + k + " is refused or NONE", calls[k].call(x) < 0);
            Check.due("asked() behind call " + k, x.asked(), 7);
        }
    }

    // "0 STARS, 1 ROWS that are there, 2 lights in all, 3 RULES, 4 how often watch() was called"
    private static void countsOfNone() {
        ChangingStars x = new ChangingStars();
        for (int what = 0; what <= 4; what++) {
            Check.due("count(" + what + ")", x.count(what), 0);
        }
        for (int what : new int[] {-1, 5, Integer.MIN_VALUE, Integer.MAX_VALUE}) {
            Check.due("count(" + what + ")", x.count(what), BAD);
        }
        x.star(0);
        x.row(0);
        Check.due("a ROW without lights is a ROW", x.count(1), 1);
        Check.due("and has no lights", x.count(2), 0);
    }

    private static void countsOfAll() {
        ChangingStars x = new ChangingStars();
        for (int n = 0; n < 12; n++) {
            x.star(0);
            x.row(n);
        }
        for (int night = 0; night < 60; night++) {
            x.lay(0, night, night);
        }
        for (int n = 1; n < 12; n++) {
            x.copy(0, 0, n, 0, 60);
        }
        for (int n = 0; n < 10; n++) {
            x.rule(0, 0, 0, 0);
        }
        x.star(0);
        x.rule(0, 0, 0, 0);
        int[] due = {12, 12, 720, 10, 0};
        for (int what = 0; what <= 4; what++) {
            Check.due("count(" + what + ")", x.count(what), due[what]);
        }
        x.tear(11);
        x.row(0);
        Check.due("count(1)", x.count(1), 11);
        Check.due("count(2)", x.count(2), 600);
    }

    private static void countOfWatches() {
        ChangingStars x = new ChangingStars();
        for (int n = 1; n <= 20; n++) {
            x.watch();
            x.alarms();
            Check.due("count(4)", x.count(4), n);
        }
    }

    // "The latest FINDING (0 before any)."
    private static void findingBeforeAny() {
        ChangingStars x = object();
        x.star(4);
        x.row(12);
        x.foot(60, 0);
        x.light(0, 59);
        x.low(0, 50, 9);
        Check.due("BAD and NONE are none", x.finding(), 0);
    }

    private static void theLatestFinding() {
        Telling[] calls = {x -> x.at(2, 0), x -> x.at(0, 60), x -> x.mark(0, 1), x -> x.mean(1),
            x -> x.copy(0, 0, 0, 0, -1)};
        ChangingStars x = object();
        for (int one = 0; one < 5; one++) {
            for (int two = 0; two < 5; two++) {
                Check.due("FINDING " + (one + 1), calls[one].call(x), FINDING);
                Check.due("finding()", x.finding(), one + 1);
                Check.due("FINDING " + (two + 1), calls[two].call(x), FINDING);
                Check.due("the latest", x.finding(), two + 1);
            }
        }
        for (int f = 1; f <= 5; f++) {
            Check.due("findings(" + f + ")", x.findings(f), 10);
        }
    }

    private static void whatIsNoFinding() {
        ChangingStars x = object();
        x.at(0, 60);
        x.at(3, 0);
        x.at(0, 0);
        x.light(0, 59);
        x.mean(0);
        x.watch();
        Check.due("it stays", x.finding(), 2);
        Check.due("once", x.findings(2), 1);
    }

    // "How often a FINDING (1 .. 5) was answered. BAD."
    private static void findingsOfEach() {
        ChangingStars x = object();
        for (int f = 1; f <= 5; f++) {
            Check.due("findings(" + f + ")", x.findings(f), 0);
        }
        for (int f : new int[] {0, -1, 6, Integer.MIN_VALUE, Integer.MAX_VALUE}) {
            Check.due("findings(" + f + ")", x.findings(f), BAD);
        }
        for (int n = 1; n <= 50; n++) {
            x.mean(2);
            Check.due("findings(1)", x.findings(1), n);
        }
        for (int f = 2; f <= 5; f++) {
            Check.due("findings(" + f + ")", x.findings(f), 0);
        }
    }

    private static long onto(long h, int... values) {
        for (int v : values) {
            h = 31 * h + v;
        }
        return h;
    }

    private static long ontoSame(long h, int times, int v) {
        for (int n = 0; n < times; n++) {
            h = 31 * h + v;
        }
        return h;
    }

    // "h = 17; then h = 31 h + v for each v"
    private static void digestOfNone() {
        Check.due("of no STARS", new ChangingStars().digest(), ontoSame(17, 60, 0));
    }

    // "of each STAR its KIND and its lights (.. a missing ROW: -1 once)"
    private static void digestOfEachStar() {
        ChangingStars x = new ChangingStars();
        long stars = 17;
        for (int n = 0; n < 12; n++) {
            x.star(n % 4);
            stars = onto(stars, n % 4, -1);
            long due = ontoSame(ontoSame(stars, 60, 0), n + 1, NONE);
            Check.due("of " + (n + 1), x.digest(), due);
        }
    }

    // "(NONE: none ..)"
    private static void digestOfLightsAndNone() {
        ChangingStars x = new ChangingStars();
        x.star(2);
        x.row(0);
        Check.due("without lights", x.digest(),
                onto(ontoSame(ontoSame(onto(17, 2), 60, NONE), 60, 0), NONE));
        x.lay(0, 0, 0);
        x.lay(0, 59, 10000);
        long row = onto(ontoSame(onto(17, 2, 0), 58, NONE), 10000);
        Check.due("the first and the last", x.digest(), onto(ontoSame(row, 60, 0), NONE));
        x.star(1);
        long missing = onto(row, 1, -1);
        Check.due("a missing one behind", x.digest(),
                onto(ontoSame(missing, 60, 0), NONE, NONE));
        x.row(1);
        long empty = ontoSame(onto(row, 1), 60, NONE);
        Check.due("an empty one behind", x.digest(), onto(ontoSame(empty, 60, 0), NONE, NONE));
    }

    // "FOOTINGS"
    private static void digestOfFootings() {
        ChangingStars x = new ChangingStars();
        x.foot(0, -10000);
        x.foot(59, 10000);
        Check.due("the first and the last", x.digest(),
                onto(ontoSame(onto(17, -10000), 58, 0), 10000));
        Check.starWith(x, 1, 5);
        x.level();
        long row = ontoSame(onto(17, 1, 5), 59, NONE);
        Check.due("behind level()", x.digest(), onto(ontoSame(row, 60, 0), NONE));
        x.foot(0, 3);
        Check.due("lights are without them", x.digest(),
                onto(ontoSame(onto(row, 3), 59, 0), NONE));
    }

    // "of each STAR its CLASS as at the latest watch() (NONE)"
    private static void digestOfClasses() {
        ChangingStars x = new ChangingStars();
        x.star(0);
        Check.starWith(x, 0, 5);
        Check.starWith(x, 0, 6);
        x.rule(0, 5, 5, 0);
        x.rule(0, 6, 6, 9);
        long rest = onto(17, 0, -1, 0, 5);
        rest = ontoSame(ontoSame(onto(ontoSame(rest, 59, NONE), 0, 6), 59, NONE), 60, 0);
        Check.due("ahead of watch()", x.digest(), onto(rest, NONE, NONE, NONE));
        x.watch();
        Check.due("behind watch()", x.digest(), onto(rest, NONE, 0, 9));
        x.rule(0, 0, 9, 1);
        x.star(0);
        long more = onto(17, 0, -1, 0, 5);
        more = onto(ontoSame(onto(ontoSame(more, 59, NONE), 0, 6), 59, NONE), 0, -1);
        Check.due("a new STAR has NONE", x.digest(), onto(ontoSame(more, 60, 0), NONE, 0, 9, NONE));
    }

    private static void digestWrapsAround() {
        ChangingStars x = new ChangingStars();
        long h = 17;
        for (int n = 0; n < 5; n++) {
            Check.starWith(x, 3);
            h = 31 * h + 3;
            for (int night = 0; night < 60; night++) {
                x.lay(n, night, 10000 - night);
                h = 31 * h + 10000 - night;
            }
        }
        Check.due("of 300 lights", x.digest(), ontoSame(ontoSame(h, 60, 0), 5, NONE));
    }

    private static void digestIsNotChangedByAsking() {
        ChangingStars x = object();
        x.rule(0, 0, 999, 5);
        long before = x.digest();
        x.light(0, 0);
        x.footing(0);
        x.levelOf(0);
        x.mean(0);
        x.string(0, 7, 1);
        x.period(0, 1, 1, 600);
        x.asWell(0, 1, 1, 600, 10);
        x.depth(0, 7, 2, 2);
        x.dip(0, 7, 6);
        x.lows(0, 50);
        x.bent(0, 50, 0, 2, 3, 1);
        x.classOf(0);
        x.mark(0, 3);
        x.alarms();
        Check.due("digest()", x.digest(), before);
        Check.due("digest() again", x.digest(), before);
    }

    // "An object is used for at most 512 calls after it has been made"
    private static void the512thCall() {
        ChangingStars x = new ChangingStars();
        for (int n = 1; n < 512; n++) {
            x.at(0, 0);
        }
        Check.due("the 512th call", x.star(3), 0);
        ChangingStars other = new ChangingStars();
        for (int n = 1; n < 512; n++) {
            other.watch();
        }
        Check.due("the 512th call", other.count(4), 511);
    }
}
