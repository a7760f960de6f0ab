/** Promises 1 to 15: a new object, stars, rows, footings, levels. */
public final class StarsRowsTest {
    private static final int BAD = ChangingStars.BAD;
    private static final int NONE = ChangingStars.NONE;
    private static final int NOTHING = 1;
    private static final int BEYOND = 2;
    private static final int UNLIKE = 3;
    private static final int NOUGHT = 4;
    private static final int SIZE = 5;
    private static final int[] NO_STARS = {-1, 1, 11, 12, Integer.MAX_VALUE, Integer.MIN_VALUE};

    public static void main(String[] args) {
        promise1NewObject();
        promise2Star();
        promise3Is();
        promise4Mark();
        promise4MarkRefused();
        promise5Row();
        promise6Lay();
        promise7At();
        promise8Light();
        promise9Tear();
        promise10Copy();
        promise10CopyRefused();
        promise11Foot();
        promise12Footing();
        promise13Level();
        promise13LevelOfStillStarsAlone();
        promise14LevelOf();
        promise15Mean();
        Check.end();
    }

    private static void promise1NewObject() {
        ChangingStars x = new ChangingStars();
        for (int what = 0; what <= 4; what++) {
            Check.due("new: count(" + what + ")", x.count(what), 0);
        }
        for (int f = 1; f <= 5; f++) {
            Check.due("new: findings(" + f + ")", x.findings(f), 0);
        }
        Check.due("new: is(0, 0)", x.is(0, 0), BAD);
        Check.due("new: alarms()", x.alarms(), 0);
        Check.due("new: asked()", x.asked(), 0);
        Check.due("new: finding()", x.finding(), 0);
        Check.due("new: dipOf(0)", x.dipOf(0), NONE);
        for (int night = 0; night < 60; night++) {
            Check.dueTold(x, "new: footing(" + night + ")", x.footing(night), 0);
        }
    }

    private static void promise2Star() {
        ChangingStars x = new ChangingStars();
        Check.due("star(-1)", x.star(-1), BAD);
        Check.due("star(4)", x.star(4), BAD);
        for (int n = 0; n < 12; n++) {
            Check.due("star " + n, x.star(n % 4), n);
            Check.due("mark(" + n + ", 0)", x.mark(n, 0), n % 4);
        }
        Check.due("a 13th star", x.star(0), ChangingStars.FULL);
        Check.due("a 13th star of no KIND", x.star(4), BAD);
        Check.due("is(12, 0) of twelve", x.is(12, 0), BAD);
        Check.due("count(0)", x.count(0), 12);
        Check.due("count(1): ROWS missing at first", x.count(1), 0);
        Check.dueFinding(x, "at(0, 0)", 0, x.at(0, 0), NOTHING);
    }

    private static void promise3Is() {
        int[][] is = {{1, 0, 0, 0}, {1, 1, 0, 0}, {1, 0, 1, 0}, {1, 0, 1, 1}};
        ChangingStars x = new ChangingStars();
        for (int kind = 0; kind < 4; kind++) {
            x.star(kind);
            for (int asked = 0; asked < 4; asked++) {
                Check.due("is(" + kind + ", " + asked + ")", x.is(kind, asked), is[kind][asked]);
            }
            Check.due("is(" + kind + ", -1)", x.is(kind, -1), BAD);
            Check.due("is(" + kind + ", 4)", x.is(kind, 4), BAD);
        }
        Check.due("is(4, 0)", x.is(4, 0), BAD);
        Check.due("is(-1, 0)", x.is(-1, 0), BAD);
    }

    private static void promise4Mark() {
        ChangingStars x = new ChangingStars();
        int still = Check.starWith(x, 1, 5, NONE, 7);
        int pulsing = Check.starWith(x, 2, 500, 800, 300);
        int dipping = Check.starWith(x, 3, 1000, 900, 1000, 901, 1000, 850, 1000);
        Check.due("mark of a STILL one", x.mark(still, 1), 2);
        Check.due("mark of a PULSING one", x.mark(pulsing, 2), 500);
        Check.due("mark of a DIPPING one", x.mark(dipping, 3), 2);
        Check.due("a DIPPING one is PULSING", x.mark(dipping, 2), 150);
        Check.due("mark 0 tells the KIND", x.mark(still, 0), 1);
        Check.due("mark 0 tells the KIND", x.mark(dipping, 0), 3);
        x.foot(1, 1000);
        Check.due("mark goes by LIGHTS", x.mark(pulsing, 2), 700);
        x.row(still);
        x.row(pulsing);
        x.row(dipping);
        Check.due("without lights", x.mark(still, 1), 0);
        Check.due("without lights", x.mark(pulsing, 2), 0);
        Check.due("without lights", x.mark(dipping, 3), 0);
    }

    private static void promise4MarkRefused() {
        ChangingStars x = new ChangingStars();
        x.star(2);
        for (int star : NO_STARS) {
            Check.due("mark(" + star + ", 0)", x.mark(star, 0), BAD);
        }
        Check.due("mark(0, -1)", x.mark(0, -1), BAD);
        Check.due("mark(0, 4)", x.mark(0, 4), BAD);
        Check.due("no finding yet", x.finding(), 0);
        Check.dueFinding(x, "UNLIKE is ahead of NOTHING", 0, x.mark(0, 1), UNLIKE);
        Check.dueFinding(x, "a PULSING one is not DIPPING", 1, x.mark(0, 3), UNLIKE);
        Check.dueFinding(x, "mark of a missing ROW", 0, x.mark(0, 2), NOTHING);
        Check.due("mark 0 of a missing ROW", x.mark(0, 0), 2);
    }

    private static void promise5Row() {
        ChangingStars x = new ChangingStars();
        x.star(0);
        for (int star : NO_STARS) {
            Check.due("row(" + star + ")", x.row(star), BAD);
        }
        Check.due("row(0)", x.row(0), 0);
        Check.due("count(1)", x.count(1), 1);
        x.lay(0, 3, 4);
        Check.due("row(0) again", x.row(0), 1);
        Check.due("its lights are gone", x.at(0, 3), NONE);
        Check.due("count(2)", x.count(2), 0);
        x.tear(0);
        Check.due("row(0) behind tear(0)", x.row(0), 0);
    }

    private static void promise6Lay() {
        ChangingStars x = new ChangingStars();
        x.star(0);
        for (int star : NO_STARS) {
            Check.due("lay(" + star + ", 0, 0)", x.lay(star, 0, 0), BAD);
        }
        Check.due("BAD is ahead of NOTHING", x.lay(0, 0, 10001), BAD);
        Check.dueFinding(x, "NOTHING is ahead of BEYOND", 0, x.lay(0, 60, 1), NOTHING);
        x.row(0);
        for (int v : new int[] {-1, -8, -10, 10001, Integer.MIN_VALUE}) {
            Check.due("lay(0, 0, " + v + ")", x.lay(0, 0, v), BAD);
            Check.due("BAD is ahead of BEYOND", x.lay(0, 60, v), BAD);
        }
        Check.dueFinding(x, "lay(0, 60, 1)", 0, x.lay(0, 60, 1), BEYOND);
        Check.dueFinding(x, "lay(0, -1, -9)", 1, x.lay(0, -1, NONE), BEYOND);
        Check.due("lay(0, 0, 0)", x.lay(0, 0, 0), NONE);
        Check.due("lay(0, 0, 10000)", x.lay(0, 0, 10000), 0);
        Check.due("lay(0, 0, -9)", x.lay(0, 0, NONE), 10000);
        Check.due("lay(0, 0, 1)", x.lay(0, 0, 1), NONE);
        Check.due("lay(0, 59, 2)", x.lay(0, 59, 2), NONE);
        Check.due("at(0, 59)", x.at(0, 59), 2);
        Check.due("count(2)", x.count(2), 2);
    }

    private static void promise7At() {
        ChangingStars x = new ChangingStars();
        x.star(0);
        for (int star : NO_STARS) {
            Check.due("at(" + star + ", 0)", x.at(star, 0), BAD);
        }
        Check.dueFinding(x, "at(0, 60) of a missing ROW", 0, x.at(0, 60), NOTHING);
        x.row(0);
        x.foot(5, 100);
        x.lay(0, 5, 40);
        Check.due("at is without FOOTINGS", x.at(0, 5), 40);
        Check.due("at(0, 6)", x.at(0, 6), NONE);
        Check.dueFinding(x, "at(0, 60)", 0, x.at(0, 60), BEYOND);
        Check.dueFinding(x, "at(0, -1)", 1, x.at(0, -1), BEYOND);
        Check.due("at tells nothing by asked()", x.asked(), 0);
    }

    private static void promise8Light() {
        ChangingStars x = new ChangingStars();
        x.star(0);
        for (int star : NO_STARS) {
            Check.due("light(" + star + ", 0)", x.light(star, 0), BAD);
        }
        Check.dueFinding(x, "light(0, 60) of a missing ROW", 0, x.light(0, 60), NOTHING);
        x.row(0);
        x.lay(0, 5, 40);
        Check.dueTold(x, "light(0, 5)", x.light(0, 5), 40);
        x.foot(5, 100);
        Check.dueTold(x, "a LIGHT below 0", x.light(0, 5), -60);
        x.foot(5, 49);
        Check.dueTold(x, "a LIGHT of -9 is a LIGHT", x.light(0, 5), -9);
        Check.due("light(0, 6)", x.light(0, 6), NONE);
        Check.due("asked() stays", x.asked(), -9);
        Check.dueFinding(x, "light(0, 60)", 0, x.light(0, 60), BEYOND);
        Check.dueFinding(x, "light(0, -1)", 1, x.light(0, -1), BEYOND);
    }

    private static void promise9Tear() {
        ChangingStars x = new ChangingStars();
        int star = Check.starWith(x, 0, 7);
        for (int none : NO_STARS) {
            Check.due("tear(" + none + ")", x.tear(none), BAD);
        }
        Check.due("tear(0)", x.tear(star), 1);
        Check.due("count(1)", x.count(1), 0);
        Check.due("count(2)", x.count(2), 0);
        Check.dueFinding(x, "tear(0) again", 0, x.tear(star), NOTHING);
        x.row(star);
        Check.due("no light comes back", x.at(star, 0), NONE);
    }

    private static void dueRow(ChangingStars x, int star, int... lights) {
        for (int night = 0; night < 60; night++) {
            int want = night < lights.length ? lights[night] : NONE;
            Check.due("at(" + star + ", " + night + ")", x.at(star, night), want);
        }
    }

    private static void promise10Copy() {
        ChangingStars x = new ChangingStars();
        int from = Check.starWith(x, 0, 1, 2, NONE, 4, 5);
        int to = Check.starWith(x, 1, 9, 9, 9, 9, 9);
        Check.due("copy to another", x.copy(from, 1, to, 2, 3), 1);
        dueRow(x, to, 9, 9, 2, NONE, 4);
        dueRow(x, from, 1, 2, NONE, 4, 5);
        Check.due("copy ahead onto itself", x.copy(from, 0, from, 1, 4), 1);
        dueRow(x, from, 1, 1, 2, NONE, 4);
        Check.due("copy back onto itself", x.copy(from, 1, from, 0, 4), 1);
        dueRow(x, from, 1, 2, NONE, 4, 4);
        Check.due("copy of none", x.copy(from, 0, to, 0, 0), 1);
        dueRow(x, to, 9, 9, 2, NONE, 4);
        Check.due("none from behind the last on", x.copy(from, 60, to, 60, 0), 1);
        Check.due("copy of all", x.copy(from, 0, to, 0, 60), 1);
        dueRow(x, to, 1, 2, NONE, 4, 4);
        Check.due("copy of the last", x.copy(from, 3, to, 59, 1), 1);
        Check.due("at(to, 59)", x.at(to, 59), 4);
    }

    private static void promise10CopyRefused() {
        ChangingStars x = new ChangingStars();
        x.star(0);
        for (int star : NO_STARS) {
            Check.due("copy from " + star, x.copy(star, 0, 0, 0, -1), BAD);
            Check.due("copy to " + star, x.copy(0, 0, star, 0, -1), BAD);
        }
        x.star(0);
        Check.dueFinding(x, "SIZE is ahead of NOTHING", 0, x.copy(0, 0, 1, 0, -1), SIZE);
        Check.dueFinding(x, "both missing", 0, x.copy(0, 60, 1, 0, 1), NOTHING);
        x.row(0);
        Check.dueFinding(x, "the other is missing", 1, x.copy(0, 0, 1, 61, 1), NOTHING);
        Check.dueFinding(x, "the first is missing", 2, x.copy(1, 0, 0, 0, 1), NOTHING);
        x.row(1);
        int[][] beyond = {{-1, 0, 1}, {0, -1, 1}, {59, 0, 2}, {0, 59, 2}, {60, 0, 1}, {0, 60, 1},
            {0, 0, 61}, {1, 0, Integer.MAX_VALUE}, {Integer.MAX_VALUE, 0, 1},
            {0, Integer.MAX_VALUE, Integer.MAX_VALUE}, {Integer.MIN_VALUE, 0, 1}, {61, 0, 0}};
        for (int k = 0; k < beyond.length; k++) {
            int[] b = beyond[k];
            Check.dueFinding(x, "BEYOND " + k, k, x.copy(0, b[0], 1, b[1], b[2]), BEYOND);
        }
        Check.dueFinding(x, "SIZE is ahead of BEYOND", 1, x.copy(0, 99, 1, 99, -5), SIZE);
    }

    private static void promise11Foot() {
        ChangingStars x = new ChangingStars();
        for (int night : new int[] {-1, 60, Integer.MIN_VALUE, Integer.MAX_VALUE}) {
            Check.due("foot(" + night + ", 0)", x.foot(night, 0), BAD);
        }
        for (int v : new int[] {-10001, 10001, Integer.MIN_VALUE, Integer.MAX_VALUE}) {
            Check.due("foot(0, " + v + ")", x.foot(0, v), BAD);
        }
        Check.due("foot(0, -10000)", x.foot(0, -10000), 1);
        Check.due("foot(59, 10000)", x.foot(59, 10000), 1);
        Check.dueTold(x, "footing(0)", x.footing(0), -10000);
        Check.dueTold(x, "footing(59)", x.footing(59), 10000);
        Check.due("foot is no finding", x.finding(), 0);
    }

    private static void promise12Footing() {
        ChangingStars x = new ChangingStars();
        x.foot(7, -9);
        Check.dueTold(x, "footing(7)", x.footing(7), -9);
        for (int night : new int[] {-1, 60, Integer.MIN_VALUE, Integer.MAX_VALUE}) {
            Check.due("footing(" + night + ")", x.footing(night), BAD);
        }
        Check.due("asked() stays", x.asked(), -9);
    }

    private static void promise13Level() {
        ChangingStars x = new ChangingStars();
        // Levels 20 and 100 (of four the one at place 2) and 50.
        Check.starWith(x, 1, 10, 20, 30);
        Check.starWith(x, 1, 90, 100, NONE, 90, 100);
        Check.starWith(x, 1, 50, 57, 50);
        for (int night = 0; night < 60; night++) {
            x.foot(night, 777);
        }
        Check.due("level()", x.level(), 3);
        int[] due = {-10, 0, 10, -10};
        for (int night = 0; night < 60; night++) {
            int want = night < due.length ? due[night] : 0;
            Check.dueTold(x, "footing(" + night + ")", x.footing(night), want);
        }
        Check.due("LEVELLING again is the same", x.level(), 3);
        Check.dueTold(x, "footing(0)", x.footing(0), -10);
    }

    private static void promise13LevelOfStillStarsAlone() {
        ChangingStars x = new ChangingStars();
        Check.due("level() of no STARS", x.level(), 0);
        for (int kind : new int[] {0, 2, 3}) {
            Check.starWith(x, kind, 1, 50, 99);
        }
        x.star(1);
        x.foot(3, 4);
        Check.due("level() without STILL lights", x.level(), 0);
        Check.dueTold(x, "footing(3)", x.footing(3), 0);
        // By size is by sign too: of -3 and -1 the second is -1.
        Check.starWith(x, 1, 0, 3, 3);
        Check.starWith(x, 1, 2, 3, 3);
        Check.due("level()", x.level(), 1);
        Check.dueTold(x, "footing(0)", x.footing(0), -1);
    }

    private static void promise14LevelOf() {
        ChangingStars x = new ChangingStars();
        x.star(0);
        for (int star : NO_STARS) {
            Check.due("levelOf(" + star + ")", x.levelOf(star), BAD);
        }
        Check.dueFinding(x, "levelOf of a missing ROW", 0, x.levelOf(0), NOTHING);
        x.row(0);
        Check.dueFinding(x, "levelOf without lights", 0, x.levelOf(0), NOUGHT);
        x.lay(0, 40, 30);
        Check.dueTold(x, "level of one", x.levelOf(0), 30);
        x.lay(0, 41, 10);
        Check.dueTold(x, "of two the second", x.levelOf(0), 30);
        x.lay(0, 42, 20);
        Check.dueTold(x, "of three the second", x.levelOf(0), 20);
        x.foot(42, 500);
        Check.dueTold(x, "with FOOTINGS", x.levelOf(0), 10);
        x.foot(41, 600);
        Check.dueTold(x, "below 0", x.levelOf(0), -480);
    }

    private static void promise15Mean() {
        ChangingStars x = new ChangingStars();
        x.star(0);
        for (int star : NO_STARS) {
            Check.due("mean(" + star + ")", x.mean(star), BAD);
        }
        Check.dueFinding(x, "mean of a missing ROW", 0, x.mean(0), NOTHING);
        x.row(0);
        Check.dueFinding(x, "mean without lights", 0, x.mean(0), NOUGHT);
        x.lay(0, 0, 3);
        Check.dueTold(x, "mean of one", x.mean(0), 3);
        x.lay(0, 59, 4);
        Check.dueTold(x, "mean is cut", x.mean(0), 3);
        x.foot(0, 10);
        Check.dueTold(x, "below 0 it is cut, too: -3 / 2", x.mean(0), -1);
        x.lay(0, 1, 10000);
        Check.dueTold(x, "mean of three", x.mean(0), 3332);
        for (int night = 0; night < 60; night++) {
            x.foot(night, 0);
            x.lay(0, night, 10000 - night);
        }
        Check.dueTold(x, "mean of sixty", x.mean(0), 9970);
        Check.dueTold(x, "level of sixty", x.levelOf(0), 9971);
        x.lay(0, 59, NONE);
        Check.dueTold(x, "mean of fifty-nine", x.mean(0), 9971);
    }
}
