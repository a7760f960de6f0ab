/**
 * The edges that the document names for STARS, ROWS, lights, FOOTINGS and LEVELS: Terms, part 1, and
 * promises 1 to 15. Each test stands below the words that it holds; what is refused, and in which
 * order, is RefusalsTest's.
 */
public final class StarsEdgesTest {
    private static final int BAD = ChangingStars.BAD;
    private static final int FULL = ChangingStars.FULL;
    private static final int NONE = ChangingStars.NONE;
    private static final int NOTHING = 1;

    public static void main(String[] args) {
        aNewObject();
        twelveStars();
        aNumberThatIsNoStarYet();
        kindsOfKinds();
        theRowIsMissingAtFirst();
        rowsAreApart();
        theFirstAndTheLastNight();
        theLeastAndTheGreatestLight();
        layingNone();
        whatLayAnswers();
        footingsAtFirst();
        theLeastAndTheGreatestFooting();
        aFootingIsOfItsNightAlone();
        lightsBelowNought();
        levelOfEachCount();
        levelOfLikeLights();
        levelGoesByLights();
        levellingOfEachCount();
        levellingNightsWithoutStillLights();
        levellingStillStarsAlone();
        levellingWithoutFootings();
        levellingTheLeastAndTheGreatest();
        marksWithoutLights();
        marksOfOneLight();
        marksOfFullRows();
        markOfDippingAtTheEdge();
        markOfTheKind();
        rowTwice();
        tearTwice();
        copyOfNone();
        copyOfAll();
        copyAsIfTakenAhead();
        copyOfTheLastNight();
        copyTakesGapsAlong();
        copyLeavesTheRest();
        meanIsCut();
        meanOfTheLeastAndTheGreatest();
        Check.end();
    }

    // "No STARS, no RULES."
    private static void aNewObject() {
        ChangingStars x = new ChangingStars();
        Check.due("count(0)", x.count(0), 0);
        Check.due("count(3)", x.count(3), 0);
        Check.due("row(0)", x.row(0), BAD);
        Check.due("level() of no STARS", x.level(), 0);
        Check.due("watch() of no STARS", x.watch(), 0);
        Check.due("the first RULE", x.rule(0, 0, 0, 0), 0);
        Check.due("the first STAR", x.star(0), 0);
        ChangingStars other = new ChangingStars();
        Check.due("objects share no STARS", other.count(0), 0);
        Check.due("objects share no RULES", other.count(3), 0);
    }

    // "STARS 0, 1, .. (12 at most)"
    private static void twelveStars() {
        ChangingStars x = new ChangingStars();
        for (int n = 0; n < 12; n++) {
            Check.due("star " + n, x.star(3 - n % 4), n);
        }
        for (int kind = 0; kind <= 3; kind++) {
            Check.due("a 13th of KIND " + kind, x.star(kind), FULL);
        }
        Check.due("count(0)", x.count(0), 12);
        for (int n = 0; n < 12; n++) {
            Check.due("the KIND of " + n + " stays", x.mark(n, 0), 3 - n % 4);
        }
        Check.due("row(11)", x.row(11), 0);
        Check.due("row(12)", x.row(12), BAD);
    }

    // "BAD -1 (a number that is none ..)"
    private static void aNumberThatIsNoStarYet() {
        ChangingStars x = new ChangingStars();
        for (int n = 0; n < 12; n++) {
            Check.due("is(" + n + ", 0) ahead of it", x.is(n, 0), BAD);
            Check.due("row(" + n + ") ahead of it", x.row(n), BAD);
            x.star(0);
            Check.due("is(" + n + ", 0)", x.is(n, 0), 1);
            Check.due("row(" + n + ")", x.row(n), 0);
        }
    }

    // "0 STAR, 1 STILL (a STAR, too), 2 PULSING (a STAR), 3 DIPPING (a PULSING one)"
    private static void kindsOfKinds() {
        String[] is = {"1000", "1100", "1010", "1011"};
        ChangingStars x = new ChangingStars();
        for (int kind = 0; kind <= 3; kind++) {
            x.star(kind);
            x.row(kind);
            for (int asked = 0; asked <= 3; asked++) {
                int due = is[kind].charAt(asked) - '0';
                Check.due("is(" + kind + ", " + asked + ")", x.is(kind, asked), due);
                int mark = x.mark(kind, asked);
                int unlike = due == 1 ? asked == 0 ? kind : 0 : ChangingStars.FINDING;
                Check.due("mark(" + kind + ", " + asked + ")", mark, unlike);
            }
        }
    }

    // "or that ROW is missing (at first)", "A STAR of a KIND, its ROW missing"
    private static void theRowIsMissingAtFirst() {
        ChangingStars x = new ChangingStars();
        for (int kind = 0; kind <= 3; kind++) {
            x.star(kind);
            Check.dueFinding(x, "at(" + kind + ", 0)", kind, x.at(kind, 0), NOTHING);
        }
        Check.due("count(1)", x.count(1), 0);
        Check.due("row(3)", x.row(3), 0);
        for (int night = 0; night < 60; night++) {
            Check.due("at(3, " + night + ")", x.at(3, night), NONE);
        }
        Check.due("count(2)", x.count(2), 0);
        Check.due("the others are missing still", x.count(1), 1);
    }

    // "Each has a ROW of light"
    private static void rowsAreApart() {
        ChangingStars x = new ChangingStars();
        for (int n = 0; n < 12; n++) {
            Check.starWith(x, 0, 100 + n);
        }
        x.tear(5);
        x.row(6);
        for (int n = 0; n < 12; n++) {
            int want = n == 5 ? ChangingStars.FINDING : n == 6 ? NONE : 100 + n;
            Check.due("at(" + n + ", 0)", x.at(n, 0), want);
        }
    }

    // "NIGHTS 0 .. 59", "BEYOND: no NIGHT 0 .. 59"
    private static void theFirstAndTheLastNight() {
        ChangingStars x = new ChangingStars();
        Check.starWith(x, 0);
        for (int night : new int[] {0, 59}) {
            Check.due("lay", x.lay(0, night, 100 + night), NONE);
            Check.due("at", x.at(0, night), 100 + night);
            Check.dueTold(x, "light", x.light(0, night), 100 + night);
            Check.due("foot", x.foot(night, 1), 1);
            Check.dueTold(x, "footing", x.footing(night), 1);
            Check.due("phase", x.phase(night, 600, 1), night);
        }
        int beyond = 0;
        for (int night : new int[] {-1, 60}) {
            Check.dueFinding(x, "lay", beyond, x.lay(0, night, 5), 2);
            Check.dueFinding(x, "at", beyond + 1, x.at(0, night), 2);
            Check.dueFinding(x, "light", beyond + 2, x.light(0, night), 2);
            beyond += 3;
            Check.due("foot", x.foot(night, 1), BAD);
            Check.due("footing", x.footing(night), BAD);
            Check.due("phase", x.phase(night, 600, 1), BAD);
        }
        Check.due("count(2)", x.count(2), 2);
    }

    // "0 .. 10000, or none"
    private static void theLeastAndTheGreatestLight() {
        ChangingStars x = new ChangingStars();
        Check.starWith(x, 0, 5);
        for (int v : new int[] {-1, -8, -10, 10001}) {
            Check.due("lay(0, 0, " + v + ")", x.lay(0, 0, v), BAD);
            Check.due("it stays", x.at(0, 0), 5);
        }
        Check.due("lay(0, 0, 0)", x.lay(0, 0, 0), 5);
        Check.due("0 is a light", x.at(0, 0), 0);
        Check.due("0 is counted", x.count(2), 1);
        Check.due("lay(0, 0, 10000)", x.lay(0, 0, 10000), 0);
        Check.due("10000 is a light", x.at(0, 0), 10000);
    }

    // "The light of a NIGHT is v (NONE: none)"
    private static void layingNone() {
        ChangingStars x = new ChangingStars();
        Check.starWith(x, 1, 5, 6);
        Check.due("lay NONE", x.lay(0, 1, NONE), 6);
        Check.due("no light", x.at(0, 1), NONE);
        Check.due("light()", x.light(0, 1), NONE);
        Check.due("count(2)", x.count(2), 1);
        Check.due("mark", x.mark(0, 1), 1);
        Check.due("lay NONE again", x.lay(0, 1, NONE), NONE);
        Check.due("the last one", x.lay(0, 0, NONE), 5);
        Check.due("the ROW is there still", x.count(1), 1);
        Check.dueFinding(x, "levelOf", 0, x.levelOf(0), 4);
    }

    // "what it was (NONE)"
    private static void whatLayAnswers() {
        ChangingStars x = new ChangingStars();
        Check.starWith(x, 0);
        x.foot(9, 3);
        int before = NONE;
        for (int v : new int[] {7, 7, 0, NONE, 10000, 1}) {
            Check.due("lay(0, 9, " + v + ")", x.lay(0, 9, v), before);
            before = v;
        }
    }

    // "FOOTING of a NIGHT: an int, 0 at first"
    private static void footingsAtFirst() {
        ChangingStars x = new ChangingStars();
        x.star(0);
        x.row(0);
        for (int night = 0; night < 60; night++) {
            x.lay(0, night, night);
            Check.dueTold(x, "light(0, " + night + ")", x.light(0, night), night);
        }
    }

    // "FOOTING of a NIGHT is v (-10000 .. 10000)"
    private static void theLeastAndTheGreatestFooting() {
        ChangingStars x = new ChangingStars();
        x.foot(7, 5);
        for (int v : new int[] {-10001, 10001}) {
            Check.due("foot(7, " + v + ")", x.foot(7, v), BAD);
            Check.dueTold(x, "it stays", x.footing(7), 5);
        }
        for (int v : new int[] {-10000, 10000, 0, -9}) {
            Check.due("foot(7, " + v + ")", x.foot(7, v), 1);
            Check.dueTold(x, "footing(7)", x.footing(7), v);
        }
    }

    // "that is taken from each light of that NIGHT"
    private static void aFootingIsOfItsNightAlone() {
        ChangingStars x = new ChangingStars();
        Check.starWith(x, 0, 10, 20, 30);
        Check.starWith(x, 3, 40, 50, 60);
        x.foot(1, 7);
        int[][] due = {{10, 13, 30}, {40, 43, 60}};
        for (int star = 0; star < 2; star++) {
            for (int night = 0; night < 3; night++) {
                Check.dueTold(x, "light", x.light(star, night), due[star][night]);
            }
        }
        Check.due("the light itself stays", x.at(0, 1), 20);
    }

    // "LIGHT is what is left"
    private static void lightsBelowNought() {
        ChangingStars x = new ChangingStars();
        Check.starWith(x, 0, 0, 10000, 0);
        x.foot(0, 10000);
        x.foot(1, -10000);
        x.foot(2, 9);
        Check.dueTold(x, "the least LIGHT", x.light(0, 0), -10000);
        Check.dueTold(x, "the greatest LIGHT", x.light(0, 1), 20000);
        Check.dueTold(x, "a LIGHT of -9 is one", x.light(0, 2), -9);
        Check.dueTold(x, "and counts", x.levelOf(0), -9);
        Check.due("a NIGHT without", x.light(0, 3), NONE);
    }

    // "of its LIGHTS by size that at place n / 2 (cut, from 0; n: how many there are)"
    private static void levelOfEachCount() {
        ChangingStars x = new ChangingStars();
        Check.starWith(x, 0);
        for (int n = 1; n <= 60; n++) {
            // 7 and 60 share no divisor, so the NIGHTS come all over the ROW.
            int night = n * 7 % 60;
            x.lay(0, night, (n % 2 == 0 ? n / 2 : 61 - (n + 1) / 2) * 10);
            Check.dueTold(x, "level of " + n, x.levelOf(0), middleOf(n));
        }
    }

    /** Of the first n among 600, 10, 590, 20, 580, ..: half of them from each end. */
    private static int middleOf(int n) {
        int small = n / 2;
        int great = n - small;
        int place = n / 2;
        return place < small ? (place + 1) * 10 : (61 - great + place - small) * 10;
    }

    private static void levelOfLikeLights() {
        ChangingStars x = new ChangingStars();
        Check.starWith(x, 0, 4, 4, 4, 9, 1, 4);
        Check.dueTold(x, "of 1, 4, 4, 4, 4, 9", x.levelOf(0), 4);
        x.lay(0, 0, 9);
        x.lay(0, 1, 9);
        Check.dueTold(x, "of 1, 4, 4, 9, 9, 9", x.levelOf(0), 9);
    }

    private static void levelGoesByLights() {
        ChangingStars x = new ChangingStars();
        Check.starWith(x, 0, 10, 20, 30);
        x.foot(0, -10000);
        Check.dueTold(x, "of 10010, 20, 30", x.levelOf(0), 30);
        x.foot(2, 10000);
        Check.dueTold(x, "of 10010, 20, -9970", x.levelOf(0), 20);
        x.foot(1, 10000);
        Check.dueTold(x, "of 10010, -9980, -9970", x.levelOf(0), -9970);
    }

    // "of these differences by size that at place m / 2 (m: how many ..) becomes its FOOTING"
    private static void levellingOfEachCount() {
        ChangingStars x = new ChangingStars();
        for (int m = 1; m <= 12; m++) {
            // NIGHTS 1 and 2 hold the LEVEL at 1000; at 0 it differs by -60, 60, -50, 50, ..
            int difference = (m % 2 == 0 ? 7 - m / 2 : m / 2 - 6) * 10;
            Check.starWith(x, 1, 1000 + difference, 1000, 1000);
            Check.due("level() of " + m, x.level(), middleDifference(m) == 0 ? 0 : 1);
            Check.dueTold(x, "footing(0) of " + m, x.footing(0), middleDifference(m));
        }
    }

    /** Of the first m among -60, 60, -50, 50, ..: one more is below 0 if m is odd. */
    private static int middleDifference(int m) {
        int below = (m + 1) / 2;
        int place = m / 2;
        return place < below ? (place - 6) * 10 : (7 - m / 2 + place - below) * 10;
    }

    // "(m: how many; none: 0)"
    private static void levellingNightsWithoutStillLights() {
        ChangingStars x = new ChangingStars();
        Check.starWith(x, 1, 10, 10, 15);
        for (int night = 0; night < 60; night++) {
            x.foot(night, 8);
        }
        Check.due("level()", x.level(), 1);
        for (int night = 0; night < 60; night++) {
            Check.dueTold(x, "footing(" + night + ")", x.footing(night), night == 2 ? 5 : 0);
        }
        x.tear(0);
        Check.due("level() of a missing ROW", x.level(), 0);
        Check.dueTold(x, "footing(2)", x.footing(2), 0);
        x.foot(59, 3);
        x.row(0);
        Check.due("level() of a ROW without lights", x.level(), 0);
        Check.dueTold(x, "footing(59)", x.footing(59), 0);
    }

    // "of all STILL STARS with a light there"
    private static void levellingStillStarsAlone() {
        for (int kind : new int[] {0, 2, 3}) {
            ChangingStars other = new ChangingStars();
            Check.starWith(other, kind, 0, 500, 700);
            Check.due("level() of KIND " + kind + " alone", other.level(), 0);
            Check.dueTold(other, "footing(0)", other.footing(0), 0);
            Check.dueTold(other, "footing(2)", other.footing(2), 0);
        }
        ChangingStars x = new ChangingStars();
        x.star(1);
        for (int kind : new int[] {0, 2, 3}) {
            Check.starWith(x, kind, 0, 500, 500);
        }
        Check.starWith(x, 1);
        Check.starWith(x, 1, 7, 5, 5);
        Check.starWith(x, 1, NONE, 900, 5, 900);
        Check.due("level()", x.level(), 1);
        // At 0 there is 2 alone; at 1 0 and 0; at 2 -895 and 0; at 3 0 alone.
        int[] due = {2, 0, 0, 0};
        for (int night = 0; night < due.length; night++) {
            Check.dueTold(x, "footing(" + night + ")", x.footing(night), due[night]);
        }
    }

    // "their light less the LEVEL of their lights (without FOOTINGS)"
    private static void levellingWithoutFootings() {
        ChangingStars x = new ChangingStars();
        Check.starWith(x, 1, 10, 20, 40);
        x.foot(0, -100);
        x.foot(2, 100);
        for (int n = 0; n < 3; n++) {
            Check.due("level() is the same again", x.level(), 2);
            Check.dueTold(x, "footing(0)", x.footing(0), -10);
            Check.dueTold(x, "footing(1)", x.footing(1), 0);
            Check.dueTold(x, "footing(2)", x.footing(2), 20);
        }
    }

    private static void levellingTheLeastAndTheGreatest() {
        ChangingStars x = new ChangingStars();
        Check.starWith(x, 1, 10000, 0, 0);
        Check.due("level()", x.level(), 1);
        Check.dueTold(x, "the greatest", x.footing(0), 10000);
        x.lay(0, 1, 10000);
        x.lay(0, 0, 0);
        x.lay(0, 2, 10000);
        Check.due("level()", x.level(), 1);
        Check.dueTold(x, "the least", x.footing(0), -10000);
        for (int night = 0; night < 60; night++) {
            x.lay(0, night, night < 29 ? 1 : night == 29 ? 2 : 3);
        }
        // LEVEL 3, since place 30 of 60 is the first of thirty.
        Check.due("level() of a full ROW", x.level(), 30);
        Check.dueTold(x, "footing(29)", x.footing(29), -1);
        Check.dueTold(x, "footing(28)", x.footing(28), -2);
    }

    // "(0 without)", "(0 without lights)"
    private static void marksWithoutLights() {
        ChangingStars x = new ChangingStars();
        for (int kind = 1; kind <= 3; kind++) {
            Check.starWith(x, kind);
            x.foot(kind, -500);
            Check.due("mark of KIND " + kind, x.mark(kind - 1, kind), 0);
        }
        Check.due("a DIPPING one as a PULSING one", x.mark(2, 2), 0);
        Check.due("no FINDING", x.finding(), 0);
    }

    private static void marksOfOneLight() {
        ChangingStars x = new ChangingStars();
        for (int kind = 1; kind <= 3; kind++) {
            Check.starWith(x, kind, 5000);
        }
        x.foot(0, 300);
        Check.due("a STILL one", x.mark(0, 1), 1);
        Check.due("a PULSING one", x.mark(1, 2), 0);
        Check.due("a DIPPING one", x.mark(2, 3), 0);
    }

    private static void marksOfFullRows() {
        ChangingStars x = new ChangingStars();
        for (int kind = 1; kind <= 3; kind++) {
            Check.starWith(x, kind);
            for (int night = 0; night < 60; night++) {
                x.lay(kind - 1, night, night % 2 == 0 ? 9000 : 0);
            }
        }
        Check.due("a STILL one", x.mark(0, 1), 60);
        Check.due("a PULSING one", x.mark(1, 2), 9000);
        Check.due("a DIPPING one: every second NIGHT", x.mark(2, 3), 30);
        Check.due("a DIPPING one as a PULSING one", x.mark(2, 2), 9000);
        x.lay(1, 0, 10000);
        x.foot(0, -10000);
        x.foot(1, 10000);
        Check.due("the greatest difference", x.mark(1, 2), 30000);
    }

    // "a DIPPING one how many LOWS for depth 100"
    private static void markOfDippingAtTheEdge() {
        ChangingStars x = new ChangingStars();
        Check.starWith(x, 3, 500, 400, 500, 401, 500);
        Check.due("400 is one, 401 is none", x.mark(0, 3), 1);
        x.foot(3, 1);
        Check.due("by LIGHTS", x.mark(0, 3), 2);
    }

    // "any (0) its KIND", "NOTHING (but for 0)"
    private static void markOfTheKind() {
        ChangingStars x = new ChangingStars();
        for (int kind = 0; kind <= 3; kind++) {
            x.star(kind);
            Check.due("of a missing ROW", x.mark(kind, 0), kind);
        }
        Check.due("no FINDING", x.finding(), 0);
        for (int kind = 1; kind <= 3; kind++) {
            Check.dueFinding(x, "mark", kind - 1, x.mark(kind, kind), NOTHING);
        }
        Check.dueFinding(x, "a DIPPING one as a PULSING one", 3, x.mark(3, 2), NOTHING);
    }

    // "The ROW of a STAR is there, without lights: 1 if it was there, else 0."
    private static void rowTwice() {
        ChangingStars x = new ChangingStars();
        x.star(0);
        Check.due("row(0)", x.row(0), 0);
        Check.due("row(0) of an empty one", x.row(0), 1);
        x.lay(0, 0, 1);
        x.lay(0, 59, 1);
        Check.due("row(0) of one with lights", x.row(0), 1);
        Check.due("at(0, 0)", x.at(0, 0), NONE);
        Check.due("at(0, 59)", x.at(0, 59), NONE);
        Check.due("count(1)", x.count(1), 1);
    }

    // "A ROW is missing: 1. BAD; NOTHING."
    private static void tearTwice() {
        ChangingStars x = new ChangingStars();
        Check.starWith(x, 2, 1, 2);
        Check.due("tear(0)", x.tear(0), 1);
        Check.dueFinding(x, "tear(0) again", 0, x.tear(0), NOTHING);
        Check.dueFinding(x, "lay", 1, x.lay(0, 0, 1), NOTHING);
        Check.due("the STAR is there still", x.mark(0, 0), 2);
        Check.due("count(2)", x.count(2), 0);
        Check.due("row(0)", x.row(0), 0);
        Check.due("without lights", x.count(2), 0);
    }

    private static void dueRow(ChangingStars x, int star, int... lights) {
        for (int night = 0; night < 60; night++) {
            int want = night < lights.length ? lights[night] : NONE;
            Check.due("at(" + star + ", " + night + ")", x.at(star, night), want);
        }
    }

    // "SIZE: n below 0", "BEYOND: not so many there"
    private static void copyOfNone() {
        ChangingStars x = new ChangingStars();
        Check.starWith(x, 0, 1, 2);
        Check.starWith(x, 0, 3, 4);
        int[][] places = {{0, 0}, {0, 1}, {59, 59}, {60, 0}, {0, 60}, {60, 60}};
        for (int[] at : places) {
            Check.due("copy of none", x.copy(0, at[0], 1, at[1], 0), 1);
        }
        dueRow(x, 0, 1, 2);
        dueRow(x, 1, 3, 4);
        Check.dueFinding(x, "one less", 0, x.copy(0, 0, 1, 0, -1), 5);
    }

    private static void copyOfAll() {
        ChangingStars x = new ChangingStars();
        Check.starWith(x, 0);
        Check.starWith(x, 0, 1, 2, 3);
        for (int night = 0; night < 60; night++) {
            x.lay(0, night, night);
        }
        Check.dueFinding(x, "one too many", 0, x.copy(0, 0, 1, 0, 61), 2);
        Check.dueFinding(x, "from 1 on", 1, x.copy(0, 1, 1, 0, 60), 2);
        Check.dueFinding(x, "to 1 on", 2, x.copy(0, 0, 1, 1, 60), 2);
        dueRow(x, 1, 1, 2, 3);
        Check.due("all 60", x.copy(0, 0, 1, 0, 60), 1);
        Check.due("count(2)", x.count(2), 120);
        Check.due("at(1, 0)", x.at(1, 0), 0);
        Check.due("at(1, 59)", x.at(1, 59), 59);
    }

    // "(perhaps itself) .. as if taken ahead"
    private static void copyAsIfTakenAhead() {
        ChangingStars x = new ChangingStars();
        Check.starWith(x, 0, 1, 2, 3, 4, 5, 6);
        Check.due("on by one", x.copy(0, 0, 0, 1, 5), 1);
        dueRow(x, 0, 1, 1, 2, 3, 4, 5);
        Check.due("back by two", x.copy(0, 2, 0, 0, 4), 1);
        dueRow(x, 0, 2, 3, 4, 5, 4, 5);
        Check.due("onto its own place", x.copy(0, 0, 0, 0, 60), 1);
        dueRow(x, 0, 2, 3, 4, 5, 4, 5);
        Check.due("59 of 60 on by one", x.copy(0, 0, 0, 1, 59), 1);
        dueRow(x, 0, 2, 2, 3, 4, 5, 4, 5);
        Check.due("59 of 60 back by one", x.copy(0, 1, 0, 0, 59), 1);
        dueRow(x, 0, 2, 3, 4, 5, 4, 5);
    }

    private static void copyOfTheLastNight() {
        ChangingStars x = new ChangingStars();
        Check.starWith(x, 0, 8);
        x.lay(0, 59, 9);
        Check.due("the first to the last but one", x.copy(0, 0, 0, 58, 1), 1);
        Check.due("the last two to the front", x.copy(0, 58, 0, 0, 2), 1);
        Check.due("at(0, 0)", x.at(0, 0), 8);
        Check.due("at(0, 1)", x.at(0, 1), 9);
        Check.dueFinding(x, "three from 58 on", 0, x.copy(0, 58, 0, 0, 3), 2);
        Check.dueFinding(x, "two to 59 on", 1, x.copy(0, 0, 0, 59, 2), 2);
        Check.due("one to 59", x.copy(0, 0, 0, 59, 1), 1);
        Check.due("at(0, 59)", x.at(0, 59), 8);
    }

    private static void copyTakesGapsAlong() {
        ChangingStars x = new ChangingStars();
        Check.starWith(x, 0, 1, NONE, 3);
        Check.starWith(x, 0, 7, 7, 7, 7);
        x.foot(0, 500);
        Check.due("copy", x.copy(0, 0, 1, 1, 3), 1);
        dueRow(x, 1, 7, 1, NONE, 3);
        Check.due("count(2)", x.count(2), 5);
    }

    private static void copyLeavesTheRest() {
        ChangingStars x = new ChangingStars();
        Check.starWith(x, 0, 1, 2, 3, 4, 5);
        Check.starWith(x, 3, 11, 12, 13, 14, 15);
        Check.due("copy", x.copy(0, 2, 1, 1, 2), 1);
        dueRow(x, 0, 1, 2, 3, 4, 5);
        dueRow(x, 1, 11, 3, 4, 14, 15);
    }

    // "The mean LIGHT of a STAR, cut"
    private static void meanIsCut() {
        int[][] rows = {{1}, {1, 2}, {2, 3, 3}, {0}, {0, 1, 0}, {9, 10, 11}};
        int[] above = {1, 1, 2, 0, 0, 10};
        // Each LIGHT less 20: -19; -37 / 2; -52 / 3; -20; -59 / 3; -30 / 3.
        int[] below = {-19, -18, -17, -20, -19, -10};
        for (int k = 0; k < rows.length; k++) {
            ChangingStars x = new ChangingStars();
            Check.starWith(x, 0, rows[k]);
            Check.dueTold(x, "mean of row " + k, x.mean(0), above[k]);
            for (int night = 0; night < 3; night++) {
                x.foot(night, 20);
            }
            Check.dueTold(x, "mean of row " + k + " below 0", x.mean(0), below[k]);
        }
    }

    private static void meanOfTheLeastAndTheGreatest() {
        for (int sign : new int[] {-1, 1}) {
            ChangingStars x = new ChangingStars();
            Check.starWith(x, 0);
            for (int night = 0; night < 60; night++) {
                x.lay(0, night, sign < 0 ? 0 : 10000);
                x.foot(night, sign < 0 ? 10000 : -10000);
            }
            Check.dueTold(x, "mean", x.mean(0), sign < 0 ? -10000 : 20000);
            Check.dueTold(x, "level", x.levelOf(0), sign < 0 ? -10000 : 20000);
        }
    }
}
