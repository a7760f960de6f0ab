/** Counts the answers that are not as due; a test ends with end(). */
final class Check {
    private static int right;
    private static int wrong;

    private Check() {
    }

    static void due(String call, long got, long want) {
        if (got == want) {
            right++;
        } else {
            wrong++;
            System.out.println(call + " answered " + got + ", due is " + want);
        }
    }

    /** A call that is refused by a FINDING: the answer, which one, and that it was counted once. */
    static void dueFinding(ChangingStars x, String call, int countBefore, int got, int finding) {
        due(call, got, ChangingStars.FINDING);
        due("finding() behind " + call, x.finding(), finding);
        due("findings(" + finding + ") behind " + call, x.findings(finding), countBefore + 1);
    }

    static void dueTold(ChangingStars x, String call, int got, long want) {
        due(call, got, 1);
        due("asked() behind " + call, x.asked(), want);
    }

    static void dueTrue(String what, boolean holds) {
        due(what, holds ? 1 : 0, 1);
    }

    /** A STAR of a KIND whose ROW is there; its lights are those given, from NIGHT 0 on. */
    static int starWith(ChangingStars x, int kind, int... lights) {
        int star = x.star(kind);
        due("row(" + star + ")", x.row(star), 0);
        for (int night = 0; night < lights.length; night++) {
            due("lay(" + star + ", " + night + ")", x.lay(star, night, lights[night]), -9);
        }
        return star;
    }

    static void end() {
        System.out.println(right + " answers as due, " + wrong + " not");
        if (wrong != 0) {
            System.exit(1);
        }
    }
}
