/** Section 4 (Order): a test for each sentence that names an edge. */
public final class OrderTest {
    private static final Check CHECK = new Check();

    public static void main(String[] args) {
        lowerStandsAheadOfUpper();
        crossAboveZeroStandsAhead();
        oppositeOnesOfTheUpperHalf();
        oppositeOnesOfTheLowerHalf();
        sameIfNeitherStandsAhead();
        orderOfTheTwoOfSizeZero();
        likeOfSizeZeroWhateverTheirSigns();
        sideLeftRightAndOnTheLine();
        sideTakesNoNullStep();
        signsOfZerosPlayNoPartInASide();
        marksThemselves();
        justBesideTheMarks();
        CHECK.end();
    }

    private static Raywalk with(int[] one, int[] other) {
        Raywalk walk = new Raywalk();
        walk.put(0, one[0], one[1], one[2]);
        walk.put(1, other[0], other[1], other[2]);
        return walk;
    }

    private static String told(int[] one, int[] other) {
        return Told.step(one[0], one[1], one[2]) + " and " + Told.step(other[0], other[1], other[2]);
    }

    /** ORDER both ways, by all that tells it. */
    private static void dueOrder(int[] one, int[] other, int want) {
        Raywalk walk = with(one, other);
        for (int how = 0; how < 3; how++) {
            CHECK.due("order by " + how + " of " + told(one, other), walk.order(0, 1, how), want);
            CHECK.due("order by " + how + " of " + told(other, one), walk.order(1, 0, how), -want);
        }
        for (int how = 0; how < 2; how++) {
            CHECK.due("same by " + how + " of " + told(one, other), walk.same(0, 1, how), want == 0);
        }
        CHECK.due("found from the end, " + told(one, other), walk.find(0, true) == 0, want != 0 && !isUnitAhead(one));
        CHECK.due("move to " + told(one, other), walk.put(1, one[0], one[1], one[2]), want);
    }

    /** The other cells have (1, 0), and are found, too. */
    private static boolean isUnitAhead(int[] step) {
        return step[1] == 0 && (step[2] & 2) == 0 && (step[0] > 0 || step[0] == 0 && (step[2] & 1) == 0);
    }

    /** "if it is LOWER and the other one UPPER" */
    private static void lowerStandsAheadOfUpper() {
        int[][] lower = {{1, 0, 2}, {0, 0, 2}, {127, -1, 0}, {0, -1, 0}, {-127, -1, 0}, {-1, 0, 2}, {0, 0, 3}};
        int[][] upper = {{1, 0, 0}, {0, 0, 0}, {127, 1, 0}, {0, 1, 0}, {-127, 1, 0}, {-1, 0, 0}, {0, 0, 1}};
        for (int[] one : lower) {
            for (int[] other : upper) {
                dueOrder(one, other, -1);
            }
        }
    }

    /** "the CROSS of its LOOK and the other one's LOOK is above 0" (both UPPER or both LOWER) */
    private static void crossAboveZeroStandsAhead() {
        int[][] upper = {{1, 0, 0}, {127, 1, 0}, {126, 125, 0}, {127, 126, 0}, {1, 1, 0}, {1, 127, 0}, {0, 9, 0},
            {-1, 127, 0}, {-5, 5, 0}, {-127, 126, 0}, {-126, 125, 0}, {-127, 1, 0}, {-1, 0, 0}};
        int[][] lower = {{-1, 0, 2}, {-127, -1, 0}, {-126, -125, 0}, {-127, -126, 0}, {-1, -1, 0}, {-1, -127, 0}, {0, -9, 0},
            {1, -127, 0}, {5, -5, 0}, {127, -126, 0}, {126, -125, 0}, {127, -1, 0}, {1, 0, 2}};
        for (int[][] half : new int[][][] {upper, lower}) {
            for (int one = 0; one < half.length; one++) {
                for (int other = one; other < half.length; other++) {
                    dueOrder(half[one], half[other], one == other ? 0 : -1);
                }
            }
        }
    }

    /** "this CROSS is 0, the DOT of the LOOKS is below 0, and its LOOK's ACROSS is above 0 (of two UPPER ones)" */
    private static void oppositeOnesOfTheUpperHalf() {
        for (int[] one : new int[][] {{1, 0, 0}, {127, 0, 1}, {0, 0, 0}}) {
            for (int[] other : new int[][] {{-1, 0, 0}, {-127, 0, 1}, {0, 0, 1}}) {
                dueOrder(one, other, -1);
            }
        }
    }

    /** "... or below 0 (of two LOWER ones)" */
    private static void oppositeOnesOfTheLowerHalf() {
        for (int[] one : new int[][] {{-1, 0, 2}, {-127, 0, 3}, {0, 0, 3}}) {
            for (int[] other : new int[][] {{1, 0, 2}, {127, 0, 3}, {0, 0, 2}}) {
                dueOrder(one, other, -1);
            }
        }
    }

    /** "Two ANSWERS are the SAME (all digits are), if neither stands AHEAD: just if their STEPS are on one RAY." */
    private static void sameIfNeitherStandsAhead() {
        dueOrder(new int[] {3, 4, 0}, new int[] {93, 124, 0}, 0);
        dueOrder(new int[] {-3, -4, 0}, new int[] {-93, -124, 0}, 0);
        dueOrder(new int[] {0, 7, 0}, new int[] {0, 127, 1}, 0);
        dueOrder(new int[] {0, -7, 1}, new int[] {0, -127, 0}, 0);
        for (int half : new int[] {0, 2}) {
            dueOrder(new int[] {1, 0, half}, new int[] {127, 0, half}, 0);
            dueOrder(new int[] {-1, 0, half}, new int[] {-127, 0, half}, 0);
            dueOrder(new int[] {0, 0, half}, new int[] {127, 0, half}, 0);
            dueOrder(new int[] {0, 0, half + 1}, new int[] {-127, 0, half}, 0);
        }
    }

    /** "of two of size 0 that with SIGN 1 stands AHEAD" */
    private static void orderOfTheTwoOfSizeZero() {
        for (int across : new int[] {0, 1, 127}) {
            dueOrder(new int[] {across, 0, 2}, new int[] {1, 0, 0}, -1);
            dueOrder(new int[] {across, 0, 2}, new int[] {0, 0, 0}, -1);
        }
    }

    /** "Two ANSWERS are LIKE each other, if they are the SAME, or both are of size 0 (whatever their SIGNS)." */
    private static void likeOfSizeZeroWhateverTheirSigns() {
        int[][] ofSizeZero = {{1, 0, 0}, {127, 0, 2}, {0, 0, 0}, {0, 0, 2}};
        int[][] halfTurns = {{-1, 0, 0}, {0, 0, 1}};
        int[][] others = {{3, 4, 0}, {3, -4, 0}, {-1, 0, 2}, {0, 1, 0}, {0, -1, 0}};
        dueLikes(ofSizeZero, ofSizeZero, true);
        dueLikes(halfTurns, halfTurns, true);
        dueLikes(ofSizeZero, halfTurns, false);
        dueLikes(ofSizeZero, others, false);
        dueLikes(halfTurns, others, false);
        dueLikes(new int[][] {{3, 4, 0}}, new int[][] {{93, 124, 0}}, true);
        dueLikes(new int[][] {{3, 4, 0}}, new int[][] {{3, -4, 0}, {4, 3, 0}, {-3, -4, 0}}, false);
        dueLikes(new int[][] {{-1, 0, 2}}, new int[][] {{0, 0, 3}}, true);
    }

    private static void dueLikes(int[][] ones, int[][] others, boolean want) {
        for (int[] one : ones) {
            for (int[] other : others) {
                CHECK.due("like of " + told(one, other), with(one, other).like(0, 1), want);
                CHECK.due("like of " + told(other, one), with(one, other).like(1, 0), want);
            }
        }
    }

    private static void dueSide(int[] one, int[] other, int want) {
        CHECK.due("side of " + told(one, other), with(one, other).side(0, 1), want);
        CHECK.due("side of " + told(other, one), with(one, other).side(1, 0), want == -9 ? -9 : -want);
    }

    /** "1 (left) if the CROSS of the first one and the other one is above 0, -1 (right) if it is below 0, 0 if it is 0" */
    private static void sideLeftRightAndOnTheLine() {
        dueSide(new int[] {127, 126, 0}, new int[] {126, 125, 0}, -1);
        dueSide(new int[] {126, 125, 0}, new int[] {127, 126, 0}, 1);
        dueSide(new int[] {127, 126, 0}, new int[] {-126, -125, 0}, 1);
        dueSide(new int[] {127, 127, 0}, new int[] {-127, 127, 0}, 1);
        dueSide(new int[] {127, -127, 0}, new int[] {127, 127, 0}, 1);
        dueSide(new int[] {-127, 1, 0}, new int[] {-127, -1, 0}, 1);
        dueSide(new int[] {3, 4, 0}, new int[] {6, 8, 0}, 0);
        dueSide(new int[] {3, 4, 0}, new int[] {-6, -8, 0}, 0);
        dueSide(new int[] {3, 4, 0}, new int[] {3, 4, 0}, 0);
    }

    /** "neither of them NULL" */
    private static void sideTakesNoNullStep() {
        for (int signs = 0; signs < 4; signs++) {
            dueSide(new int[] {0, 0, signs}, new int[] {3, 4, 0}, -9);
            dueSide(new int[] {0, 0, signs}, new int[] {0, 0, 3 - signs}, -9);
        }
    }

    /** "(SIGNS of ZEROS play no part.)" */
    private static void signsOfZerosPlayNoPartInASide() {
        for (int signs = 0; signs < 4; signs++) {
            for (int others = 0; others < 4; others++) {
                dueSide(new int[] {1, 0, signs}, new int[] {5, 0, others}, 0);
                dueSide(new int[] {1, 0, signs}, new int[] {-5, 0, others}, 0);
                dueSide(new int[] {0, 1, signs}, new int[] {0, -5, others}, 0);
                dueSide(new int[] {1, 0, signs}, new int[] {0, 5, others}, 1);
                dueSide(new int[] {-1, 0, signs}, new int[] {0, -5, others}, 1);
                dueSide(new int[] {-1, 0, signs}, new int[] {0, 5, others}, -1);
            }
        }
    }

    private static void dueEighth(int across, int up, int signs, int want) {
        Raywalk walk = new Raywalk();
        walk.put(7, across, up, signs);
        CHECK.due("eighth of " + Told.step(across, up, signs), walk.eighth(7), want);
    }

    /** "The MARKS are eight STEPS, in ORDER: ...; all their ZEROS have SIGN 0." */
    private static void marksThemselves() {
        int[][] marks = {{-1, -1}, {0, -1}, {1, -1}, {1, 0}, {1, 1}, {0, 1}, {-1, 1}, {-1, 0}};
        for (int at = 0; at < marks.length; at++) {
            for (int times : new int[] {1, 2, 127}) {
                dueEighth(marks[at][0] * times, marks[at][1] * times, 0, at + 1);
                dueEighth(marks[at][0] * times, marks[at][1] * times, 1, at + 1);
            }
        }
        dueEighth(1, 0, 2, 3);
        dueEighth(127, 0, 3, 3);
        dueEighth(-1, 0, 2, 0);
        dueEighth(-127, 0, 3, 0);
        dueEighth(0, 0, 0, 4);
        dueEighth(0, 0, 1, 8);
        dueEighth(0, 0, 2, 3);
        dueEighth(0, 0, 3, 0);
    }

    /** eighth(): "of how many of the MARKS its STEP does not stand AHEAD", just before and just behind each one. */
    private static void justBesideTheMarks() {
        int[][] beside = {
            {-127, -1, 0}, {-127, -126, 0}, {-126, -127, 1}, {-1, -127, 1}, {1, -127, 2}, {126, -127, 2}, {127, -126, 3},
            {127, -1, 3}, {127, 1, 4}, {127, 126, 4}, {126, 127, 5}, {1, 127, 5}, {-1, 127, 6}, {-126, 127, 6},
            {-127, 126, 7}, {-127, 1, 7}};
        for (int[] step : beside) {
            dueEighth(step[0], step[1], 0, step[2]);
        }
    }
}
