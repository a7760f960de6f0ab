/**
 * The edges that the document names for PHASES, STRINGS, PERIODS and DIPS: Terms, part 2, and
 * promises 16 to 22. Each test stands below the words that it holds; what is refused, and in which
 * order, is RefusalsTest's.
 */
public final class FoldsEdgesTest {
    private static final int BAD = ChangingStars.BAD;
    private static final int NONE = ChangingStars.NONE;

    public static void main(String[] args) {
        theLeastAndTheGreatestPeriod();
        phasesWrapAround();
        stringOfFewerThanTwo();
        stringOfTwo();
        stringIsARing();
        stringByPhases();
        stringOfLikePhases();
        stringOverGaps();
        theLongestString();
        periodFromOneToOne();
        periodFromLeastToGreatest();
        ofLikePeriodsTheLeast();
        periodOutsideIsNotSeen();
        periodWithoutLights();
        asWellAtTheHundredth();
        asWellOfLikeStrings();
        asWellOfTwiceTheString();
        asWellOfStringsOfNought();
        asWellLeavesAsked();
        theShortestAndTheLongestDip();
        theFirstAndTheLastPhaseOfADip();
        aDipWrapsAround();
        noneInOrAllIn();
        depthOfNought();
        theDeepestAndTheShallowest();
        dipsOfAllLengthsUpToMost();
        dipsOfAllBeginnings();
        mostBeyondThePeriod();
        ofLikeDipsTheShortest();
        thenTheFirst();
        dipsOfLightsBelowNought();
        dipsOfLikeLights();
        noDipCounts();
        dipOfBeforeAndBehind();
        Check.end();
    }

    // "FOLDED by a PERIOD p by q (p 1 .. 600, q 1 .. 60)"
    private static void theLeastAndTheGreatestPeriod() {
        ChangingStars x = new ChangingStars();
        Check.starWith(x, 0, 3, 8);
        int[][] fine = {{1, 1}, {1, 60}, {600, 1}, {600, 60}};
        int[][] bad = {{0, 1}, {601, 1}, {1, 0}, {1, 61}, {-1, 1}, {1, -1}};
        for (int[] by : fine) {
            Check.due("phase by " + by[0] + ", " + by[1], x.phase(1, by[0], by[1]), by[1] % by[0]);
            Check.dueTold(x, "string", x.string(0, by[0], by[1]), 10);
            Check.due("period", x.period(0, by[1], by[0], by[0]), by[0]);
            Check.due("asWell", x.asWell(0, by[1], by[0], by[0], 0), 0);
        }
        for (int[] by : bad) {
            Check.due("phase by " + by[0] + ", " + by[1], x.phase(1, by[0], by[1]), BAD);
            Check.due("string", x.string(0, by[0], by[1]), BAD);
            Check.due("period", x.period(0, by[1], by[0], by[0]), BAD);
            Check.due("asWell", x.asWell(0, by[1], by[0], by[0], 0), BAD);
        }
    }

    // "the PHASE of a NIGHT is TIME times q, modulo p (0 .. p - 1)"
    private static void phasesWrapAround() {
        ChangingStars x = new ChangingStars();
        Check.due("ahead of the end", x.phase(6, 7, 1), 6);
        Check.due("at the end", x.phase(7, 7, 1), 0);
        Check.due("behind the end", x.phase(8, 7, 1), 1);
        Check.due("the last of 60", x.phase(59, 60, 1), 59);
        Check.due("the last of 59", x.phase(59, 59, 1), 0);
        Check.due("by 2 ahead of the end", x.phase(29, 60, 2), 58);
        Check.due("by 2 at the end", x.phase(30, 60, 2), 0);
        Check.due("the greatest of all", x.phase(59, 600, 60), 540);
        int[] due = new int[60];
        for (int p : new int[] {1, 2, 59, 60, 61, 599, 600}) {
            ChangingStars fresh = new ChangingStars();
            for (int night = 0; night < 60; night++) {
                due[night] = night == 0 ? 0 : due[night - 1] + 60;
                while (due[night] >= p) {
                    due[night] -= p;
                }
                Check.due("phase(" + night + ", " + p + ", 60)", fresh.phase(night, p, 60),
                        due[night]);
            }
        }
    }

    // "0 with fewer than two"
    private static void stringOfFewerThanTwo() {
        ChangingStars x = new ChangingStars();
        Check.starWith(x, 0, 44);
        x.levelOf(0);
        Check.dueTold(x, "of one", x.string(0, 7, 1), 0);
        x.lay(0, 0, NONE);
        x.lay(0, 59, 10000);
        x.foot(59, -10000);
        Check.dueTold(x, "of the last one", x.string(0, 7, 1), 0);
        x.light(0, 59);
        x.lay(0, 59, NONE);
        Check.dueTold(x, "of none", x.string(0, 7, 1), 0);
    }

    // "(the last one's and the first one's, too ..)": of two that is the same difference again
    private static void stringOfTwo() {
        ChangingStars x = new ChangingStars();
        Check.starWith(x, 0, 44, 50);
        Check.dueTold(x, "of two", x.string(0, 7, 1), 12);
        Check.dueTold(x, "of two of one PHASE", x.string(0, 1, 1), 12);
        x.lay(0, 1, 44);
        Check.dueTold(x, "of two alike", x.string(0, 7, 1), 0);
    }

    private static void stringIsARing() {
        ChangingStars x = new ChangingStars();
        Check.starWith(x, 0, 10, 20, 40);
        Check.dueTold(x, "10 + 20 + 30", x.string(0, 600, 1), 60);
        x.lay(0, 3, 80);
        Check.dueTold(x, "10 + 20 + 40 + 70", x.string(0, 600, 1), 140);
    }

    // "the NIGHTS with a light, by PHASES"
    private static void stringByPhases() {
        ChangingStars x = new ChangingStars();
        Check.starWith(x, 0, 10, 50, 12, 52, 14, 54);
        Check.dueTold(x, "by 2: 10 12 14 50 52 54", x.string(0, 2, 1), 2 + 2 + 36 + 2 + 2 + 44);
        // By 5 by 2: PHASES 0 2 4 1 3 0: 10 54 52 50 14 12.
        Check.dueTold(x, "by 5 by 2", x.string(0, 5, 2), 44 + 2 + 2 + 36 + 2 + 2);
        // By 5: PHASES 0 1 2 3 4 0: 10 54 50 12 52 14.
        Check.dueTold(x, "the last NIGHT wraps around", x.string(0, 5, 1),
                44 + 4 + 38 + 40 + 38 + 4);
    }

    // "(of like ones by TIME)"
    private static void stringOfLikePhases() {
        ChangingStars x = new ChangingStars();
        Check.starWith(x, 0, 10, 90, 20, 80, 30, 70);
        Check.dueTold(x, "by 1 all are alike", x.string(0, 1, 1), 80 + 70 + 60 + 50 + 40 + 60);
        // By 3: 10 80 90 30 20 70.
        Check.dueTold(x, "by 3", x.string(0, 3, 1), 70 + 10 + 60 + 10 + 50 + 60);
        // By 2, from the odd ones on in TIME: 20 30 90 80 70.
        x.lay(0, 0, NONE);
        Check.dueTold(x, "by 2", x.string(0, 2, 1), 10 + 60 + 10 + 10 + 50);
    }

    private static void stringOverGaps() {
        ChangingStars x = new ChangingStars();
        Check.starWith(x, 0, NONE, 5, NONE, NONE, 9);
        x.lay(0, 59, 2);
        Check.dueTold(x, "5 9 2", x.string(0, 600, 1), 4 + 7 + 3);
        // 59 modulo 57 is 2: 5 2 9.
        x.lay(0, 10, 4);
        Check.dueTold(x, "5 2 9 4", x.string(0, 57, 1), 3 + 7 + 5 + 1);
    }

    private static void theLongestString() {
        ChangingStars x = new ChangingStars();
        Check.starWith(x, 0);
        for (int night = 0; night < 60; night++) {
            x.lay(0, night, night % 2 == 0 ? 0 : 10000);
            x.foot(night, night % 2 == 0 ? 10000 : -10000);
        }
        Check.dueTold(x, "60 times 30000", x.string(0, 600, 1), 1800000);
        Check.dueTold(x, "by 2", x.string(0, 2, 1), 60000);
        Check.due("the PERIOD", x.period(0, 1, 1, 600), 2);
        Check.due("its STRING", x.asked(), 60000);
    }

    // "THE PERIOD of a STAR for q, from p = a to b"
    private static void periodFromOneToOne() {
        ChangingStars x = new ChangingStars();
        Check.starWith(x, 0, 10, 90, 20, 80);
        for (int p : new int[] {1, 2, 3, 600}) {
            Check.due("from " + p + " to " + p, x.period(0, 1, p, p), p);
        }
        Check.due("its STRING", x.asked(), 80 + 70 + 60 + 70);
        Check.due("from 3 to 2", x.period(0, 1, 3, 2), BAD);
        Check.due("asked() stays", x.asked(), 280);
    }

    private static void periodFromLeastToGreatest() {
        ChangingStars x = new ChangingStars();
        Check.starWith(x, 0, 1, 2, 3, 1, 2, 3, 1, 2, 3);
        Check.due("from 1 to 600", x.period(0, 1, 1, 600), 3);
        Check.due("from 1 to 3: the last", x.period(0, 1, 1, 3), 3);
        Check.due("from 3 to 600: the first", x.period(0, 1, 3, 600), 3);
        Check.due("its STRING", x.asked(), 4);
        // The last TIME by 60 is 480, so nothing wraps around.
        Check.due("600 alone", x.period(0, 60, 600, 600), 600);
        Check.due("its STRING", x.asked(), 1 + 1 + 2 + 1 + 1 + 2 + 1 + 1 + 2);
    }

    // "that with the least STRING, of these the least p"
    private static void ofLikePeriodsTheLeast() {
        ChangingStars x = new ChangingStars();
        Check.starWith(x, 0, 1, 5, 1, 5, 1, 5, 1, 5);
        Check.due("2", x.period(0, 1, 1, 600), 2);
        // Behind the last TIME, 7, nothing wraps around.
        Check.due("from 8 on all are alike", x.period(0, 1, 8, 600), 8);
        Check.due("from 9 on", x.period(0, 1, 9, 600), 9);
        x.lay(0, 1, 1);
        x.lay(0, 3, 1);
        x.lay(0, 5, 1);
        x.lay(0, 7, 1);
        Check.due("STRINGS of 0", x.period(0, 1, 1, 600), 1);
        Check.due("its STRING", x.asked(), 0);
    }

    private static void periodOutsideIsNotSeen() {
        ChangingStars x = new ChangingStars();
        Check.starWith(x, 0, 1, 2, 3, 1, 2, 3, 1, 2, 3);
        Check.dueTold(x, "by 1", x.string(0, 1, 1), 12);
        Check.dueTold(x, "by 2: 1 3 2 1 3 2 1 3 2", x.string(0, 2, 1), 12);
        Check.due("3 is behind b", x.period(0, 1, 1, 2), 1);
        Check.due("its STRING", x.asked(), 12);
        // By 4: 1 2 3 2 3 3 1 1 2; by 5: 1 3 2 1 3 2 1 3 2.
        Check.due("3 is ahead of a", x.period(0, 1, 4, 5), 4);
        Check.due("its STRING", x.asked(), 1 + 1 + 1 + 1 + 0 + 2 + 0 + 1 + 1);
    }

    private static void periodWithoutLights() {
        ChangingStars x = new ChangingStars();
        Check.starWith(x, 0);
        x.foot(0, 5);
        x.footing(0);
        Check.due("without lights the least p", x.period(0, 60, 17, 600), 17);
        Check.due("a STRING of 0 is told", x.asked(), 0);
        x.footing(0);
        x.lay(0, 0, 7);
        Check.due("with one light", x.period(0, 60, 1, 600), 1);
        Check.due("a STRING of 0 is told", x.asked(), 0);
    }

    // "if its STRING is at most h hundredths more than that (0 .. 100)"
    private static void asWellAtTheHundredth() {
        ChangingStars x = new ChangingStars();
        // By 2: 0 100 150 150: 300; by 1: 0 150 100 150: 400, a third more.
        Check.starWith(x, 0, 0, 150, 100, 150);
        Check.dueTold(x, "by 1", x.string(0, 1, 1), 400);
        Check.dueTold(x, "by 2", x.string(0, 2, 1), 300);
        Check.due("33 hundredths: 399", x.asWell(0, 1, 1, 2, 33), 0);
        Check.due("34 hundredths: 402", x.asWell(0, 1, 1, 2, 34), 1);
        x.lay(0, 2, 75);
        Check.dueTold(x, "by 1", x.string(0, 1, 1), 450);
        Check.due("49 hundredths: 447", x.asWell(0, 1, 1, 2, 49), 0);
        Check.due("50 hundredths: 450, at most", x.asWell(0, 1, 1, 2, 50), 1);
        x.lay(0, 2, 148);
        Check.dueTold(x, "by 1", x.string(0, 1, 1), 304);
        Check.due("1 hundredth: 303", x.asWell(0, 1, 1, 2, 1), 0);
        Check.due("2 hundredths: 306", x.asWell(0, 1, 1, 2, 2), 1);
    }

    // "How many p from a to b fit AS WELL as THE PERIOD (itself aside)."
    private static void asWellOfLikeStrings() {
        ChangingStars x = new ChangingStars();
        Check.starWith(x, 0, 1, 5, 1, 5, 1, 5, 1, 5);
        Check.due("from 8 to 600 all are alike", x.asWell(0, 1, 8, 600, 0), 592);
        Check.due("of two", x.asWell(0, 1, 8, 9, 0), 1);
        Check.due("of one", x.asWell(0, 1, 8, 8, 100), 0);
        Check.due("2 is alone", x.asWell(0, 1, 1, 3, 0), 0);
    }

    private static void asWellOfTwiceTheString() {
        ChangingStars x = new ChangingStars();
        // By 2: 0 0 10 10: 20; by 1: 0 10 0 10: 40, 100 hundredths more.
        Check.starWith(x, 0, 0, 10, 0, 10);
        Check.due("99 hundredths", x.asWell(0, 1, 1, 2, 99), 0);
        Check.due("100 hundredths", x.asWell(0, 1, 1, 2, 100), 1);
        Check.due("101 hundredths", x.asWell(0, 1, 1, 2, 101), BAD);
        Check.due("-1 hundredths", x.asWell(0, 1, 1, 2, -1), BAD);
        // By 1 now 0 11 0 10: 42; by 2: 22.
        x.lay(0, 1, 11);
        Check.dueTold(x, "by 2", x.string(0, 2, 1), 22);
        Check.due("42 is less than 44", x.asWell(0, 1, 1, 2, 100), 1);
    }

    private static void asWellOfStringsOfNought() {
        ChangingStars x = new ChangingStars();
        Check.starWith(x, 0);
        Check.due("without lights all", x.asWell(0, 1, 1, 600, 0), 599);
        x.lay(0, 0, 7);
        Check.due("with one light all", x.asWell(0, 1, 1, 600, 0), 599);
        x.lay(0, 1, 7);
        Check.due("with lights alike all", x.asWell(0, 1, 600, 600, 0), 0);
        Check.due("with lights alike all", x.asWell(0, 1, 599, 600, 100), 1);
    }

    private static void asWellLeavesAsked() {
        ChangingStars x = new ChangingStars();
        Check.starWith(x, 0, 0, 10, 0, 10);
        x.light(0, 1);
        Check.due("asWell()", x.asWell(0, 1, 1, 2, 100), 1);
        Check.due("asked() is that of light()", x.asked(), 10);
    }

    private static ChangingStars withFullRow() {
        ChangingStars x = new ChangingStars();
        Check.starWith(x, 3);
        for (int night = 0; night < 60; night++) {
            x.lay(0, night, 100);
        }
        return x;
    }

    // "of a length l (1 .. p - 1, at most 30)", "(p 2 .. 600)"
    private static void theShortestAndTheLongestDip() {
        ChangingStars x = withFullRow();
        int[][] fine = {{2, 1}, {3, 2}, {30, 29}, {31, 30}, {32, 30}, {600, 30}, {600, 1}};
        int[][] bad = {{2, 0}, {2, 2}, {3, 3}, {30, 30}, {31, 31}, {32, 31}, {600, 31}, {600, 0},
            {1, 1}, {601, 1}, {2, -1}};
        for (int[] d : fine) {
            Check.dueTold(x, "depth by " + d[0] + " of " + d[1], x.depth(0, d[0], d[1], 0), 0);
        }
        for (int[] d : bad) {
            Check.due("depth by " + d[0] + " of " + d[1], x.depth(0, d[0], d[1], 0), BAD);
        }
    }

    // "from a PHASE f on", a PHASE is 0 .. p - 1
    private static void theFirstAndTheLastPhaseOfADip() {
        ChangingStars x = withFullRow();
        for (int p : new int[] {2, 31, 60}) {
            Check.dueTold(x, "from 0 on", x.depth(0, p, 1, 0), 0);
            Check.dueTold(x, "from p - 1 on", x.depth(0, p, 1, p - 1), 0);
            Check.due("from p on", x.depth(0, p, 1, p), BAD);
            Check.due("from -1 on", x.depth(0, p, 1, -1), BAD);
        }
        Check.due("p - 1 of 600 without a light", x.depth(0, 600, 1, 599), NONE);
    }

    // "NIGHTS with PHASE f, f + 1, .. (modulo p), l of them, are IN"
    private static void aDipWrapsAround() {
        ChangingStars x = new ChangingStars();
        Check.starWith(x, 3, 1, 10, 100, 1000, 10000);
        // By 5 each NIGHT has a PHASE of its own: what is IN can be told from the DEPTH.
        int[] lights = {1, 10, 100, 1000, 10000};
        for (int l = 1; l <= 4; l++) {
            for (int f = 0; f < 5; f++) {
                int in = 0;
                for (int k = f; k < f + l; k++) {
                    in += lights[k < 5 ? k : k - 5];
                }
                Check.dueTold(x, "depth of " + l + " from " + f + " on", x.depth(0, 5, l, f),
                        (11111 - in) * l - in * (5 - l));
            }
        }
        // The whole ring of 31 but one PHASE, from the last one on: 30, 0, .., 28.
        x.lay(0, 30, 500);
        x.lay(0, 29, 7);
        Check.dueTold(x, "30 of 31 from 30 on", x.depth(0, 31, 30, 30), 7 * 6 - 11611);
    }

    // "NONE: none are IN, or all"
    private static void noneInOrAllIn() {
        ChangingStars x = new ChangingStars();
        Check.starWith(x, 3);
        Check.due("without lights", x.depth(0, 2, 1, 0), NONE);
        x.lay(0, 4, 9);
        Check.due("the one light is IN", x.depth(0, 2, 1, 0), NONE);
        Check.due("the one light is not IN", x.depth(0, 2, 1, 1), NONE);
        x.lay(0, 6, 9);
        Check.due("both are IN", x.depth(0, 2, 1, 0), NONE);
        Check.due("both are not IN", x.depth(0, 2, 1, 1), NONE);
        Check.due("asked() stays", x.asked(), 0);
        Check.dueTold(x, "one is IN", x.depth(0, 4, 1, 2), 0);
        x.lay(0, 6, 8);
        Check.dueTold(x, "one is IN", x.depth(0, 4, 1, 2), 1);
        Check.dueTold(x, "the other is IN", x.depth(0, 4, 1, 0), -1);
        Check.due("both by three of four", x.depth(0, 4, 3, 0), NONE);
        Check.due("asked() stays", x.asked(), -1);
    }

    private static void depthOfNought() {
        ChangingStars x = withFullRow();
        x.levelOf(0);
        Check.dueTold(x, "a DEPTH of 0 is told", x.depth(0, 60, 30, 45), 0);
    }

    private static void theDeepestAndTheShallowest() {
        ChangingStars x = withFullRow();
        for (int night = 0; night < 60; night++) {
            x.lay(0, night, night % 2 == 0 ? 0 : 10000);
            x.foot(night, night % 2 == 0 ? 10000 : -10000);
        }
        Check.dueTold(x, "the greatest", x.depth(0, 2, 1, 0), 600000 * 30 + 300000 * 30);
        Check.dueTold(x, "the least", x.depth(0, 2, 1, 1), -27000000);
        dueDip(x, "THE DIP", x.dip(0, 2, 1), 1, 0, 30);
    }

    private static void dueDip(ChangingStars x, String call, int got, int l, int f, int in) {
        Check.due(call, got, l);
        Check.due("dipOf(0) behind " + call, x.dipOf(0), l);
        Check.due("dipOf(1) behind " + call, x.dipOf(1), f);
        Check.due("dipOf(2) behind " + call, x.dipOf(2), in);
    }

    // "over all l from 1 to a told most"
    private static void dipsOfAllLengthsUpToMost() {
        ChangingStars x = withFullRow();
        for (int night = 10; night < 40; night++) {
            x.lay(0, night, 50);
        }
        for (int most : new int[] {1, 2, 29, 30}) {
            dueDip(x, "most " + most, x.dip(0, 60, most), most, 10, most);
        }
        Check.due("most 0", x.dip(0, 60, 0), BAD);
        Check.due("most 31", x.dip(0, 60, 31), BAD);
        x.lay(0, 39, 100);
        dueDip(x, "29 of 30", x.dip(0, 60, 30), 29, 10, 29);
    }

    // "and all f"
    private static void dipsOfAllBeginnings() {
        for (int f = 0; f < 7; f++) {
            ChangingStars x = new ChangingStars();
            Check.starWith(x, 3);
            for (int night = 0; night < 56; night++) {
                int phase = night % 7;
                x.lay(0, night, phase == f || phase == (f + 1) % 7 ? 40 : 90);
            }
            dueDip(x, "from " + f + " on", x.dip(0, 7, 6), 2, f, 16);
        }
    }

    // a length is "1 .. p - 1": a most beyond it is none that is wrong
    private static void mostBeyondThePeriod() {
        ChangingStars x = new ChangingStars();
        Check.starWith(x, 3, 50, 90, 90, 50);
        dueDip(x, "by 2", x.dip(0, 2, 30), 1, 0, 2);
        dueDip(x, "by 3", x.dip(0, 3, 30), 1, 0, 2);
        x.lay(0, 2, 40);
        x.lay(0, 3, 90);
        dueDip(x, "by 3 up to 2", x.dip(0, 3, 30), 1, 2, 1);
        x.lay(0, 0, 40);
        x.lay(0, 3, 40);
        dueDip(x, "by 3 of 2", x.dip(0, 3, 30), 2, 2, 3);
        Check.due("by 1", x.dip(0, 1, 30), BAD);
        Check.due("by 601", x.dip(0, 601, 30), BAD);
    }

    // "the greatest DEPTH, of these the least l"
    private static void ofLikeDipsTheShortest() {
        ChangingStars x = new ChangingStars();
        Check.starWith(x, 3, NONE, NONE, NONE, NONE, NONE, 50, 90, 90);
        // Longer ones, from ahead of it on, have the same IN, and a lesser f.
        dueDip(x, "by 600", x.dip(0, 600, 30), 1, 5, 1);
        x.lay(0, 7, NONE);
        x.lay(0, 6, 50);
        x.lay(0, 20, 90);
        dueDip(x, "of two NIGHTS", x.dip(0, 600, 14), 2, 5, 2);
    }

    // "then the least f"
    private static void thenTheFirst() {
        ChangingStars x = new ChangingStars();
        Check.starWith(x, 3, 90, 50, 90, 50, 90, 90, 50);
        dueDip(x, "of three alike", x.dip(0, 600, 1), 1, 1, 1);
        x.lay(0, 0, 50);
        dueDip(x, "of four alike", x.dip(0, 600, 1), 1, 0, 1);
    }

    private static void dipsOfLightsBelowNought() {
        ChangingStars x = new ChangingStars();
        Check.starWith(x, 3, 50, 50, 50, 50);
        dueDip(x, "all are 0", x.dip(0, 4, 3), 1, 0, 1);
        x.foot(0, 10000);
        x.foot(1, 10000);
        x.foot(2, 10000);
        x.foot(3, 10000);
        dueDip(x, "LIGHTS below 0", x.dip(0, 4, 3), 1, 0, 1);
        x.foot(2, 9999);
        // Without the one that is brighter: three from 3 on.
        dueDip(x, "one is brighter", x.dip(0, 4, 3), 3, 3, 3);
    }

    /** All DEPTHS are 0; those with none IN, or all, would be as well, but do not count. */
    private static void dipsOfLikeLights() {
        ChangingStars x = new ChangingStars();
        Check.starWith(x, 3, NONE, NONE, NONE, 50, 50);
        dueDip(x, "by 600", x.dip(0, 600, 30), 1, 3, 1);
        x.lay(0, 10, 50);
        x.lay(0, 4, NONE);
        dueDip(x, "by 7 all have PHASE 3, by 6 not", x.dip(0, 6, 5), 1, 3, 1);
        Check.due("by 7", x.dip(0, 7, 6), NONE);
        x.foot(3, 50);
        x.foot(10, 50);
        dueDip(x, "LIGHTS of 0", x.dip(0, 8, 7), 1, 2, 1);
    }

    // "it counts only if some are IN and some are not", "NONE: none counts"
    private static void noDipCounts() {
        ChangingStars x = new ChangingStars();
        Check.starWith(x, 3);
        Check.due("without lights", x.dip(0, 2, 1), NONE);
        x.lay(0, 7, 40);
        Check.due("with one light", x.dip(0, 600, 30), NONE);
        x.lay(0, 14, 90);
        x.lay(0, 56, 10);
        Check.due("all of one PHASE", x.dip(0, 7, 6), NONE);
        Check.due("no DIP yet", x.dipOf(0), NONE);
        // PHASES 7, 6 and 0: 40 and 10 are deeper than 10 alone.
        dueDip(x, "by 8", x.dip(0, 8, 7), 2, 7, 2);
    }

    // "Of THE DIP of the latest dip() that was not refused (nor NONE) .. NONE: there was none."
    private static void dipOfBeforeAndBehind() {
        ChangingStars x = new ChangingStars();
        Check.starWith(x, 3, 90, 20, 30, 90, 90);
        x.star(3);
        Check.starWith(x, 3, 5);
        for (int what = 0; what <= 2; what++) {
            Check.due("before: dipOf(" + what + ")", x.dipOf(what), NONE);
        }
        Check.due("dipOf(-1)", x.dipOf(-1), BAD);
        Check.due("dipOf(3)", x.dipOf(3), BAD);
        Check.due("refused", x.dip(0, 1, 1), BAD);
        Check.due("refused", x.dip(1, 2, 1), ChangingStars.FINDING);
        Check.due("NONE", x.dip(2, 2, 1), NONE);
        Check.due("still none", x.dipOf(1), NONE);
        dueDip(x, "the first", x.dip(0, 5, 4), 2, 1, 2);
        Check.due("refused", x.dip(0, 1, 1), BAD);
        Check.due("refused", x.dip(1, 2, 1), ChangingStars.FINDING);
        Check.due("NONE", x.dip(2, 2, 1), NONE);
        x.depth(0, 5, 1, 0);
        x.row(0);
        dueDip(x, "it stays", 2, 2, 1, 2);
        x.lay(0, 8, 1);
        x.lay(0, 9, 2);
        dueDip(x, "the next", x.dip(0, 10, 1), 1, 8, 1);
    }
}
