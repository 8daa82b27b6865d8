/** Section 5 (Rules), and make(), stretch() and rule() as they go by it: a test for each sentence that names an edge. */
public final class RulesTest {
    private static final Check CHECK = new Check();
    /** Coordinates with both ZEROS; -0.0 is that with SIGN 1. */
    private static final double[] COORDINATES = {-127, -126, -2, -1, -0.0, 0.0, 1, 2, 126, 127};
    /** H and Q in PARTS, each 1 / 2^59. */
    private static final long HALF = 7074237752028440L << 8;
    private static final long QUARTER = HALF / 2;

    public static void main(String[] args) {
        whatEachRuleMakes();
        makeIsLetOnNullSteps();
        rule0KeepsAllDigitsButTheSign();
        rules1To5ByTheDigitsOfFixedSteps();
        rules1To5ByTheGradesOfAll();
        rule6KeepsAllDigits();
        rule7ByAnotherFunction();
        rulesHoldForEachStep();
        rules2To5AskForNoNullStep();
        whichRule();
        CHECK.end();
    }

    private static Raywalk with(double across, double up) {
        Raywalk walk = new Raywalk();
        walk.put(0, (int) across, (int) up, signsOf(across, up));
        return walk;
    }

    private static int signsOf(double across, double up) {
        return (isBelow(across) ? 1 : 0) + (isBelow(up) ? 2 : 0);
    }

    private static boolean isBelow(double coordinate) {
        return Math.copySign(1, coordinate) < 0;
    }

    private static String told(double across, double up) {
        return Told.step((int) across, (int) up, signsOf(across, up));
    }

    /** The words of rules 0 to 5: ACROSS and UP, "with the other SIGN" (a ZERO's, too) and changed over. */
    private static double[] ruled(double across, double up, int rule) {
        switch (rule) {
            case 0: return new double[] {across, -up};
            case 1: return new double[] {-across, up};
            case 2: return new double[] {-up, across};
            case 3: return new double[] {up, -across};
            case 4: return new double[] {up, across};
            default: return new double[] {-across, -up};
        }
    }

    /** make(): "The STEP of a CELL becomes that which a RULE makes of it"; the MOVE is ORDER of both. */
    private static void whatEachRuleMakes() {
        for (double across : COORDINATES) {
            for (double up : COORDINATES) {
                for (int rule = 0; rule < 6; rule++) {
                    double[] made = ruled(across, up, rule);
                    Raywalk walk = with(across, up);
                    walk.put(1, (int) made[0], (int) made[1], signsOf(made[0], made[1]));
                    int order = walk.order(1, 0, 0);
                    String call = "rule " + rule + " of " + told(across, up);
                    CHECK.due("move of " + call, walk.make(0, rule), order);
                    CHECK.due(call, Told.stepOf(walk, 0), told(made[0], made[1]));
                }
            }
        }
    }

    /** "All hold for each STEP, but 2 to 5 for those that are not NULL": make() does them all the same. */
    private static void makeIsLetOnNullSteps() {
        // The MOVES of (0, 0) with SIGNS 0 to 3, by hand: 0 stands between -0 and H, -H is ahead of all.
        int[][] moves = {{-1, 1, 1, -1, 0, -1}, {-1, -1, -1, -1, -1, -1}, {1, -1, 1, -1, 1, 1}, {1, 1, 1, 1, 0, 1}};
        for (int signs = 0; signs < 4; signs++) {
            for (int rule = 0; rule < 6; rule++) {
                Raywalk walk = new Raywalk();
                walk.put(5, 0, 0, signs);
                CHECK.due("move of rule " + rule + " of null, signs " + signs, walk.make(5, rule), moves[signs][rule]);
                CHECK.due("still null", walk.across(5) == 0 && walk.up(5) == 0, true);
                CHECK.due("acts", walk.house(0), 2);
                CHECK.due("refusals", walk.house(2), 0);
            }
        }
    }

    /** "0: UP with the other SIGN: b has the digits of a, but for the SIGN" */
    private static void rule0KeepsAllDigitsButTheSign() {
        for (double across : COORDINATES) {
            for (double up : COORDINATES) {
                Raywalk walk = with(across, up);
                int upper = walk.upper(0);
                int lower = walk.lower(0);
                walk.make(0, 0);
                CHECK.due("first digits of " + told(across, -up), walk.upper(0), upper ^ 1 << 31);
                CHECK.due("last digits of " + told(across, -up), walk.lower(0), lower);
            }
        }
    }

    /** The value of a FIXED step's ANSWER in PARTS, by its digits. */
    private static long parts(Raywalk walk) {
        long digits = (long) walk.upper(0) << 32 | walk.lower(0) & 0xffffffffL;
        long size = digits & Long.MAX_VALUE;
        int exponent = (int) (size >> 52);
        long parts = size == 0 ? 0 : (1L << 52 | size & (1L << 52) - 1) << exponent - 1016;
        return digits < 0 ? -parts : parts;
    }

    private static void dueWithin(String what, long got, long want, long most) {
        CHECK.due(what + " is " + got + ", at most " + most + " from " + want, Math.abs(got - want) <= most, true);
    }

    /** What a + b (or b - a) is about, as section 5 tells it. */
    private static long aboutBy(int rule, double across, double up) {
        boolean isUpper = !isBelow(up);
        boolean isBack = isBelow(across);
        switch (rule) {
            case 1: return isUpper ? HALF : -HALF;
            case 2: return isUpper && isBack ? -3 * QUARTER : QUARTER;
            case 3: return !isUpper && isBack ? 3 * QUARTER : -QUARTER;
            case 4: return !isUpper && isBack ? -3 * QUARTER : QUARTER;
            default: return isUpper ? -HALF : HALF;
        }
    }

    private static boolean isForNull(int rule) {
        return rule >= 2 && rule <= 5;
    }

    /** The RULES 1 to 5 with their edges: UPPER or LOWER, SIGN of ACROSS, NULL; "about" is at most 512 PARTS. */
    private static void rules1To5ByTheDigitsOfFixedSteps() {
        double[] coordinates = {-127, -0.0, 0.0, 127};
        for (double across : coordinates) {
            for (double up : coordinates) {
                for (int rule = 1; rule <= 5; rule++) {
                    if (across == 0 && up == 0 && isForNull(rule)) {
                        continue;
                    }
                    Raywalk walk = with(across, up);
                    long a = parts(walk);
                    walk.make(0, rule);
                    long b = parts(walk);
                    long got = rule == 1 || rule == 4 ? a + b : b - a;
                    long most = rule == 1 || rule == 5 ? 256 : 512;
                    dueWithin("rule " + rule + " of " + told(across, up), got, aboutBy(rule, across, up), most);
                }
            }
        }
    }

    /** The same of all others, as near as GRADES to 29 digits tell it. */
    private static void rules1To5ByTheGradesOfAll() {
        for (double across : COORDINATES) {
            for (double up : COORDINATES) {
                for (int rule = 1; rule <= 5; rule++) {
                    if (across == 0 && up == 0 && isForNull(rule)) {
                        continue;
                    }
                    Raywalk walk = with(across, up);
                    long a = walk.grade(0, 29);
                    walk.make(0, rule);
                    long b = walk.grade(0, 29);
                    long got = rule == 1 || rule == 4 ? a + b : b - a;
                    dueWithin("rule " + rule + " by grades of " + told(across, up), got, aboutBy(rule, across, up) >> 30, 2);
                }
            }
        }
    }

    /** "6: ACROSS and UP times a whole number, for each one from 2 on for which both are COORDINATES: b has all digits of a" */
    private static void rule6KeepsAllDigits() {
        for (int across = -13; across <= 13; across++) {
            for (int up = -13; up <= 13; up++) {
                for (int by : new int[] {2, 3, 9, 42, 63, 64, 127}) {
                    Raywalk walk = with(across, up);
                    int upper = walk.upper(0);
                    int lower = walk.lower(0);
                    boolean isLet = Math.abs(across * by) <= 127 && Math.abs(up * by) <= 127;
                    String call = told(across, up) + " times " + by;
                    CHECK.due(call, walk.stretch(0, by), isLet ? 0 : -9);
                    CHECK.due("first digits of " + call, walk.upper(0), upper);
                    CHECK.due("last digits of " + call, walk.lower(0), lower);
                }
            }
        }
    }

    /** "7: if ACROSS is above 0: a has all digits of what another function ... tells of the quotient UP / ACROSS" */
    private static void rule7ByAnotherFunction() {
        for (int across = 1; across <= 127; across++) {
            for (int up = -127; up <= 127; up += 2) {
                int other = (int) (Double.doubleToRawLongBits(StrictMath.atan((double) up / across)) >>> 32);
                CHECK.due("first digits of " + told(across, up), with(across, up).upper(0), other);
            }
        }
    }

    /** rule(): "1 if it holds for its STEP (it always does)", of rule 7 for any ACROSS, too. */
    private static void rulesHoldForEachStep() {
        for (double across : COORDINATES) {
            for (double up : COORDINATES) {
                Raywalk walk = with(across, up);
                for (int rule = 0; rule < 8; rule++) {
                    boolean isNothing = across == 0 && up == 0 && isForNull(rule);
                    CHECK.due("rule(0, " + rule + ") of " + told(across, up), walk.rule(0, rule), isNothing ? -9 : 1);
                }
                CHECK.due("rule() leaves the step", Told.stepOf(walk, 0), told(across, up));
            }
        }
    }

    /** rule(): "-9 if the STEP is NULL and which is 2 to 5" */
    private static void rules2To5AskForNoNullStep() {
        for (int signs = 0; signs < 4; signs++) {
            Raywalk walk = new Raywalk();
            walk.put(0, 0, 0, signs);
            int[] due = {1, 1, -9, -9, -9, -9, 1, 1};
            for (int rule = 0; rule < 8; rule++) {
                CHECK.due("rule " + rule + " of null, signs " + signs, walk.rule(0, rule), due[rule]);
            }
            CHECK.due("refusals", walk.house(2), 0);
        }
    }

    /** make(): "if which is not 0 to 5"; rule(): "if which is not 0 to 7" */
    private static void whichRule() {
        Raywalk walk = new Raywalk();
        CHECK.due("make 5", walk.make(0, 5), -1);
        CHECK.due("rule 7", walk.rule(0, 7), 1);
        CHECK.noArgument("make 6", () -> walk.make(0, 6));
        CHECK.noArgument("make 7", () -> walk.make(0, 7));
        CHECK.noArgument("make -1", () -> walk.make(0, -1));
        CHECK.noArgument("rule 8", () -> walk.rule(0, 8));
        CHECK.noArgument("rule -1", () -> walk.rule(0, -1));
    }
}
