/** Promises 16 to 22: phases, strings, periods, dips. */
public final class PeriodsDipsTest {
    private static final int BAD = ChangingStars.BAD;
    private static final int NONE = ChangingStars.NONE;
    private static final int NOTHING = 1;
    private static final int[] NO_STARS = {-1, 1, 12, Integer.MAX_VALUE, Integer.MIN_VALUE};
    private static final int[] NO_P = {0, -1, 601, Integer.MAX_VALUE, Integer.MIN_VALUE};
    private static final int[] NO_Q = {0, -1, 61, Integer.MAX_VALUE, Integer.MIN_VALUE};

    public static void main(String[] args) {
        promise16Phase();
        promise17String();
        promise17StringRefused();
        promise18Period();
        promise18PeriodRefused();
        promise19AsWell();
        promise19AsWellRefused();
        promise20Depth();
        promise20DepthRefused();
        promise21Dip();
        promise21DipTies();
        promise21DipIsTheDeepest();
        promise21DipRefused();
        promise22DipOf();
        Check.end();
    }

    private static void promise16Phase() {
        ChangingStars x = new ChangingStars();
        Check.due("phase(0, 1, 1)", x.phase(0, 1, 1), 0);
        Check.due("phase(59, 1, 60)", x.phase(59, 1, 60), 0);
        Check.due("phase(59, 600, 1)", x.phase(59, 600, 1), 59);
        Check.due("phase(59, 599, 60)", x.phase(59, 599, 60), 3540 % 599);
        Check.due("phase(10, 7, 1)", x.phase(10, 7, 1), 3);
        Check.due("phase(10, 7, 2)", x.phase(10, 7, 2), 6);
        Check.due("phase(-1, 1, 1)", x.phase(-1, 1, 1), BAD);
        Check.due("phase(60, 1, 1)", x.phase(60, 1, 1), BAD);
        for (int p : NO_P) {
            Check.due("phase(0, " + p + ", 1)", x.phase(0, p, 1), BAD);
        }
        for (int q : NO_Q) {
            Check.due("phase(0, 1, " + q + ")", x.phase(0, 1, q), BAD);
        }
        Check.due("asked() stays", x.asked(), 0);
    }

    private static void promise17String() {
        ChangingStars x = new ChangingStars();
        int star = Check.starWith(x, 2);
        Check.dueTold(x, "STRING of none", x.string(star, 5, 1), 0);
        x.lay(star, 0, 100);
        Check.dueTold(x, "STRING of one", x.string(star, 5, 1), 0);
        x.lay(star, 1, 130);
        Check.dueTold(x, "of two there and back", x.string(star, 5, 1), 60);
        x.lay(star, 2, 100);
        x.lay(star, 3, 130);
        Check.dueTold(x, "by TIME", x.string(star, 1, 1), 120);
        Check.dueTold(x, "by TIME in one turn", x.string(star, 600, 1), 120);
        Check.dueTold(x, "even ones ahead of odd ones", x.string(star, 2, 1), 60);
        x.lay(star, 2, 90);
        // PHASES of 0, 1, 2, 3 by 3 by 2: 0, 2, 1, 0: lights 100, 130, 90, 130.
        Check.dueTold(x, "like PHASES by TIME", x.string(star, 3, 2), 140);
        x.foot(2, -60);
        // LIGHTS 100, 130, 150, 130.
        Check.dueTold(x, "with FOOTINGS", x.string(star, 3, 2), 100);
        x.lay(star, 0, NONE);
        x.lay(star, 3, 160);
        x.lay(star, 4, 131);
        // From NIGHT 1 on: PHASES 1, 0, 1, 0; by PHASES 150, 131, 130, 160.
        Check.dueTold(x, "the first NIGHT behind", x.string(star, 2, 1), 19 + 1 + 30 + 10);
    }

    private static void promise17StringRefused() {
        ChangingStars x = new ChangingStars();
        x.star(2);
        for (int star : NO_STARS) {
            Check.due("string(" + star + ", 1, 1)", x.string(star, 1, 1), BAD);
        }
        for (int p : NO_P) {
            Check.due("string(0, " + p + ", 1)", x.string(0, p, 1), BAD);
        }
        for (int q : NO_Q) {
            Check.due("string(0, 1, " + q + ")", x.string(0, 1, q), BAD);
        }
        Check.dueFinding(x, "string(0, 1, 1)", 0, x.string(0, 1, 1), NOTHING);
    }

    private static ChangingStars ofPeriodThree() {
        ChangingStars x = new ChangingStars();
        Check.starWith(x, 2, 10, 50, 20, 10, 50, 20, 10, 50, 20, 10, 50, 20);
        return x;
    }

    private static void promise18Period() {
        ChangingStars x = ofPeriodThree();
        Check.due("period(0, 1, 1, 12)", x.period(0, 1, 1, 12), 3);
        Check.due("its STRING", x.asked(), 80);
        Check.due("by q 2", x.period(0, 2, 1, 12), 3);
        Check.due("its STRING", x.asked(), 80);
        Check.due("of one p", x.period(0, 1, 4, 4), 4);
        Check.dueTold(x, "string(0, 4, 1)", x.string(0, 4, 1), 320);
        Check.due("of like ones the least", x.period(0, 1, 12, 600), 12);
        Check.due("its STRING", x.asked(), 320);
        // 60 n modulo p comes again behind three NIGHTS for 9, 18, 36, 45, 90 and 180.
        Check.due("all p", x.period(0, 60, 1, 600), 9);
        Check.due("its STRING", x.asked(), 80);
        x.row(0);
        Check.due("without lights", x.period(0, 1, 7, 9), 7);
        Check.due("its STRING", x.asked(), 0);
    }

    private static void promise18PeriodRefused() {
        ChangingStars x = new ChangingStars();
        x.star(2);
        for (int star : NO_STARS) {
            Check.due("period(" + star + ", 1, 1, 1)", x.period(star, 1, 1, 1), BAD);
        }
        for (int q : NO_Q) {
            Check.due("period(0, " + q + ", 1, 1)", x.period(0, q, 1, 1), BAD);
        }
        for (int p : NO_P) {
            Check.due("period(0, 1, " + p + ", 600)", x.period(0, 1, p, 600), BAD);
            Check.due("period(0, 1, 1, " + p + ")", x.period(0, 1, 1, p), BAD);
        }
        Check.due("period(0, 1, 2, 1)", x.period(0, 1, 2, 1), BAD);
        Check.dueFinding(x, "period(0, 1, 1, 1)", 0, x.period(0, 1, 1, 1), NOTHING);
    }

    private static void promise19AsWell() {
        ChangingStars x = new ChangingStars();
        Check.starWith(x, 2, 10, 100, 60, 110);
        int[] strings = new int[5];
        for (int p = 1; p <= 5; p++) {
            x.string(0, p, 1);
            strings[p - 1] = (int) x.asked();
        }
        for (int h = 0; h <= 100; h++) {
            Check.due("asWell(0, 1, 1, 5, " + h + ")", x.asWell(0, 1, 1, 5, h),
                    howMany(strings, h));
        }
        Check.due("itself aside", x.asWell(0, 1, 3, 3, 100), 0);
        Check.due("asked() stays that of string()", x.asked(), strings[4]);
        exactHundredths();
        x.row(0);
        Check.due("all are 0 long", x.asWell(0, 1, 1, 600, 0), 599);
    }

    private static int howMany(int[] strings, int h) {
        int least = strings[0];
        for (int s : strings) {
            least = Math.min(least, s);
        }
        int fit = -1;
        for (int s : strings) {
            fit += s * 100 <= least * (100 + h) ? 1 : 0;
        }
        return fit;
    }

    /** STRINGS of 200 (p 2) and 300 (p 1): one half more is 50 hundredths, not 49. */
    private static void exactHundredths() {
        ChangingStars x = new ChangingStars();
        Check.starWith(x, 2, 0, 100, 50, 100);
        Check.dueTold(x, "string(0, 2, 1)", x.string(0, 2, 1), 200);
        Check.dueTold(x, "string(0, 1, 1)", x.string(0, 1, 1), 300);
        Check.due("asWell with 49", x.asWell(0, 1, 1, 2, 49), 0);
        Check.due("asWell with 50", x.asWell(0, 1, 1, 2, 50), 1);
        Check.due("asWell with 51", x.asWell(0, 1, 1, 2, 51), 1);
    }

    private static void promise19AsWellRefused() {
        ChangingStars x = new ChangingStars();
        x.star(2);
        for (int star : NO_STARS) {
            Check.due("asWell(" + star + ", ..)", x.asWell(star, 1, 1, 1, 0), BAD);
        }
        for (int q : NO_Q) {
            Check.due("asWell(0, " + q + ", ..)", x.asWell(0, q, 1, 1, 0), BAD);
        }
        for (int p : NO_P) {
            Check.due("asWell from " + p, x.asWell(0, 1, p, 600, 0), BAD);
            Check.due("asWell to " + p, x.asWell(0, 1, 1, p, 0), BAD);
        }
        Check.due("asWell from 2 to 1", x.asWell(0, 1, 2, 1, 0), BAD);
        Check.due("asWell with -1", x.asWell(0, 1, 1, 1, -1), BAD);
        Check.due("asWell with 101", x.asWell(0, 1, 1, 1, 101), BAD);
        Check.dueFinding(x, "asWell(0, 1, 1, 1, 100)", 0, x.asWell(0, 1, 1, 1, 100), NOTHING);
    }

    private static void promise20Depth() {
        ChangingStars x = new ChangingStars();
        Check.starWith(x, 3, 100, 100, 60, 100, 100, 100, 100, 70);
        // PERIOD 5: PHASE 2 has 60 and 70; the six others are 100.
        Check.dueTold(x, "depth(0, 5, 1, 2)", x.depth(0, 5, 1, 2), 600 * 2 - 130 * 6);
        Check.dueTold(x, "depth(0, 5, 1, 0)", x.depth(0, 5, 1, 0), 530 * 2 - 200 * 6);
        // From PHASE 4 on three: 4, 0, 1.
        Check.dueTold(x, "around the end", x.depth(0, 5, 3, 4), 230 * 5 - 500 * 3);
        x.foot(7, 100);
        Check.dueTold(x, "with FOOTINGS", x.depth(0, 5, 1, 2), 600 * 2 - 30 * 6);
        Check.due("none are IN", x.depth(0, 600, 30, 8), NONE);
        Check.due("all are IN", x.depth(0, 600, 8, 0), NONE);
        Check.due("asked() stays", x.asked(), 600 * 2 - 30 * 6);
        Check.dueTold(x, "the longest around the end", x.depth(0, 600, 30, 571), 530 - 100 * 7);
        x.row(0);
        Check.due("without lights", x.depth(0, 5, 1, 2), NONE);
    }

    private static void promise20DepthRefused() {
        ChangingStars x = new ChangingStars();
        x.star(3);
        for (int star : NO_STARS) {
            Check.due("depth(" + star + ", 2, 1, 0)", x.depth(star, 2, 1, 0), BAD);
        }
        for (int p : NO_P) {
            Check.due("depth(0, " + p + ", 1, 0)", x.depth(0, p, 1, 0), BAD);
        }
        Check.due("depth(0, 1, 1, 0)", x.depth(0, 1, 1, 0), BAD);
        for (int l : new int[] {0, -1, 5, 6, 31, Integer.MAX_VALUE, Integer.MIN_VALUE}) {
            Check.due("depth(0, 5, " + l + ", 0)", x.depth(0, 5, l, 0), BAD);
        }
        Check.due("depth(0, 600, 31, 0)", x.depth(0, 600, 31, 0), BAD);
        for (int f : new int[] {-1, 5, Integer.MAX_VALUE, Integer.MIN_VALUE}) {
            Check.due("depth(0, 5, 1, " + f + ")", x.depth(0, 5, 1, f), BAD);
        }
        Check.dueFinding(x, "depth(0, 2, 1, 1)", 0, x.depth(0, 2, 1, 1), NOTHING);
        Check.dueFinding(x, "depth(0, 31, 30, 30)", 1, x.depth(0, 31, 30, 30), NOTHING);
    }

    private static void dueDip(ChangingStars x, String call, int got, int l, int f, int in) {
        Check.due(call, got, l);
        Check.due("dipOf(0) behind " + call, x.dipOf(0), l);
        Check.due("dipOf(1) behind " + call, x.dipOf(1), f);
        Check.due("dipOf(2) behind " + call, x.dipOf(2), in);
    }

    private static void promise21Dip() {
        ChangingStars x = new ChangingStars();
        Check.starWith(x, 3, 50, 100, 100, 60, 50, 100, 100, 60, 50, 100, 100, 60);
        dueDip(x, "a DIP around the end", x.dip(0, 4, 3), 2, 3, 6);
        dueDip(x, "of length 1 alone", x.dip(0, 4, 1), 1, 0, 3);
        dueDip(x, "most beyond p - 1", x.dip(0, 4, 30), 2, 3, 6);
        dueDip(x, "dip(0, 2, 30)", x.dip(0, 2, 30), 1, 0, 6);
        x.foot(2, 99);
        x.foot(6, 99);
        x.foot(10, 99);
        dueDip(x, "with FOOTINGS", x.dip(0, 4, 1), 1, 2, 3);
        Check.due("dip tells nothing by asked()", x.asked(), 0);
    }

    private static void promise21DipTies() {
        ChangingStars x = new ChangingStars();
        Check.starWith(x, 3, 5, 5, 5, 5);
        dueDip(x, "all DEPTHS are 0", x.dip(0, 4, 3), 1, 0, 1);
        x.lay(0, 0, NONE);
        dueDip(x, "the first that counts", x.dip(0, 600, 30), 1, 1, 1);
        // PERIOD 8: no light at PHASE 0, so length 2 from 0 on is as deep as 1 from 1 on.
        x.lay(0, 1, 1);
        dueDip(x, "of like DEPTHS the least l", x.dip(0, 8, 5), 1, 1, 1);
        x.lay(0, 3, 1);
        dueDip(x, "then the least f", x.dip(0, 8, 1), 1, 1, 1);
        x.row(0);
        Check.due("without lights", x.dip(0, 8, 5), NONE);
        x.lay(0, 5, 5);
        Check.due("one light", x.dip(0, 8, 5), NONE);
        x.lay(0, 13, 6);
        Check.due("two of one PHASE", x.dip(0, 8, 5), NONE);
        dueDip(x, "the latest that was found stays", 1, 1, 1, 1);
        dueDip(x, "two of two PHASES", x.dip(0, 7, 5), 1, 5, 1);
    }

    private static void promise21DipIsTheDeepest() {
        for (int p = 2; p <= 12; p++) {
            ChangingStars x = new ChangingStars();
            x.star(3);
            x.row(0);
            for (int night = 0; night < 60; night += 1 + night % 3) {
                x.lay(0, night, night * night * 31 % 97);
            }
            int bestLength = NONE;
            int bestPhase = NONE;
            long deepest = 0;
            for (int l = 1; l <= 6 && l < p; l++) {
                for (int f = 0; f < p; f++) {
                    if (x.depth(0, p, l, f) == 1 && (bestLength == NONE || x.asked() > deepest)) {
                        bestLength = l;
                        bestPhase = f;
                        deepest = x.asked();
                    }
                }
            }
            Check.due("dip(0, " + p + ", 6)", x.dip(0, p, 6), bestLength);
            Check.due("dipOf(1) for " + p, x.dipOf(1), bestPhase);
        }
    }

    private static void promise21DipRefused() {
        ChangingStars x = new ChangingStars();
        x.star(3);
        for (int star : NO_STARS) {
            Check.due("dip(" + star + ", 2, 1)", x.dip(star, 2, 1), BAD);
        }
        for (int p : NO_P) {
            Check.due("dip(0, " + p + ", 1)", x.dip(0, p, 1), BAD);
        }
        Check.due("dip(0, 1, 1)", x.dip(0, 1, 1), BAD);
        for (int most : new int[] {0, -1, 31, Integer.MAX_VALUE, Integer.MIN_VALUE}) {
            Check.due("dip(0, 40, " + most + ")", x.dip(0, 40, most), BAD);
        }
        Check.dueFinding(x, "dip(0, 2, 30)", 0, x.dip(0, 2, 30), NOTHING);
        Check.due("dipOf(0)", x.dipOf(0), NONE);
    }

    private static void promise22DipOf() {
        ChangingStars x = new ChangingStars();
        Check.starWith(x, 3, 9, 1, 2, 9, 9, 9);
        for (int what = 0; what <= 2; what++) {
            Check.due("dipOf(" + what + ")", x.dipOf(what), NONE);
        }
        for (int what : new int[] {-1, 3, Integer.MAX_VALUE, Integer.MIN_VALUE}) {
            Check.due("dipOf(" + what + ")", x.dipOf(what), BAD);
        }
        dueDip(x, "dip(0, 6, 5)", x.dip(0, 6, 5), 2, 1, 2);
        x.dip(0, 0, 5);
        x.depth(0, 6, 1, 0);
        x.tear(0);
        x.dip(0, 6, 5);
        dueDip(x, "what is refused leaves it", 2, 2, 1, 2);
    }
}
