import java.math.BigInteger;

/** Section 3 (Grades): a test for each sentence that names an edge. */
public final class GradesTest {
    private static final Check CHECK = new Check();
    /** H is this number over 2^51. */
    private static final BigInteger HALF_TURN = BigInteger.valueOf(7074237752028440L);

    public static void main(String[] args) {
        digitsFrom0To29();
        belowZeroItIsRoundedDown();
        sizeZeroHasGradeZero();
        halfAndQuarterTurnsToAllDigits();
        eighthsToAllDigits();
        nearestToTheLines();
        theAnswerHasTheSameGrade();
        aGradeMayBeMinus9();
        aBearingMayBeMinus9();
        aGradeOfMoreDigitsIsTwiceThat();
        CHECK.end();
    }

    private static Raywalk with(int across, int up, int signs) {
        Raywalk walk = new Raywalk();
        walk.put(0, across, up, signs);
        return walk;
    }

    /** "The GRADE of an ANSWER to n digits, n from 0 to 29" */
    private static void digitsFrom0To29() {
        Raywalk walk = with(-127, 1, 0);
        CHECK.due("to 0 digits", walk.grade(0, 0), 3);
        CHECK.due("to 29 digits", walk.grade(0, 29), 1682402470);
        for (int wrong : new int[] {-1, 30, 31, 32, 64, Integer.MIN_VALUE, Integer.MAX_VALUE}) {
            CHECK.noArgument("to " + wrong + " digits", () -> walk.grade(0, wrong));
        }
    }

    /** "(below 0, too, it is rounded down: -0.5 to 0 digits is -1)" */
    private static void belowZeroItIsRoundedDown() {
        // (127, 1) goes at 0.00787, a little above 1/128.
        for (int digits = 0; digits <= 6; digits++) {
            CHECK.due("a little above 0 to " + digits, with(127, 1, 0).grade(0, digits), 0);
            CHECK.due("a little below 0 to " + digits, with(127, -1, 0).grade(0, digits), -1);
        }
        CHECK.due("a little above 1/128", with(127, 1, 0).grade(0, 7), 1);
        CHECK.due("a little below -1/128", with(127, -1, 0).grade(0, 7), -2);
        CHECK.due("-0.46", with(2, -1, 0).grade(0, 0), -1);
        CHECK.due("-2.68", with(-2, -1, 0).grade(0, 0), -3);
        CHECK.due("-3.13", with(-127, -1, 0).grade(0, 0), -4);
        for (int digits = 0; digits <= 29; digits++) {
            for (int[] step : new int[][] {{2, 1}, {-2, 1}, {1, 1}, {0, 1}, {-1, 1}, {-127, 126}}) {
                int above = with(step[0], step[1], 0).grade(0, digits);
                CHECK.due("below 0 of " + Told.step(step[0], -step[1], 0) + " to " + digits,
                        with(step[0], -step[1], 0).grade(0, digits), -above - 1);
            }
        }
    }

    /** "of an ANSWER of size 0 it is 0" (of both SIGNS) */
    private static void sizeZeroHasGradeZero() {
        for (int digits = 0; digits <= 29; digits++) {
            for (int across : new int[] {0, 1, 127}) {
                for (int signs : new int[] {0, 2}) {
                    CHECK.due("grade of " + Told.step(across, 0, signs) + " to " + digits,
                            with(across, 0, signs).grade(0, digits), 0);
                }
            }
        }
    }

    /** The whole number not above -H or H, Q or -Q, ... over 2^n, by whole numbers alone. */
    private static int floorOfHalfTurns(BigInteger halfTurns, int halvings, int digits) {
        return halfTurns.shiftLeft(digits).shiftRight(51 + halvings).intValueExact();
    }

    /** "the greatest whole number g for which g / 2^n is not above the ANGLE": of H, -H, Q and -Q. */
    private static void halfAndQuarterTurnsToAllDigits() {
        for (int digits = 0; digits <= 29; digits++) {
            for (int across : new int[] {-1, -127, 0}) {
                CHECK.due("H to " + digits, with(across, 0, 1).grade(0, digits), floorOfHalfTurns(HALF_TURN, 0, digits));
                CHECK.due("-H to " + digits, with(across, 0, 3).grade(0, digits),
                        floorOfHalfTurns(HALF_TURN.negate(), 0, digits));
            }
            for (int signs = 0; signs < 4; signs++) {
                CHECK.due("Q to " + digits, with(0, 1, signs).grade(0, digits), floorOfHalfTurns(HALF_TURN, 1, digits));
                CHECK.due("-Q to " + digits, with(0, -1, signs).grade(0, digits),
                        floorOfHalfTurns(HALF_TURN.negate(), 1, digits));
            }
        }
    }

    /** No line is near: the true eighths and those of H have the same GRADES. */
    private static void eighthsToAllDigits() {
        BigInteger three = BigInteger.valueOf(3);
        for (int digits = 0; digits <= 29; digits++) {
            CHECK.due("an eighth to " + digits, with(7, 7, 0).grade(0, digits), floorOfHalfTurns(HALF_TURN, 2, digits));
            CHECK.due("three eighths to " + digits, with(-7, 7, 0).grade(0, digits),
                    floorOfHalfTurns(HALF_TURN.multiply(three), 2, digits));
            CHECK.due("minus three eighths to " + digits, with(-7, -7, 0).grade(0, digits),
                    floorOfHalfTurns(HALF_TURN.multiply(three).negate(), 2, digits));
        }
    }

    /** "at least 2^-44 away from each g / 2^29": of the steps whose ANGLES are nearest to a line, above and below it. */
    private static void nearestToTheLines() {
        int[][] nearest = {{23, 80, 693017940}, {-17, 112, 924186894}, {65, 41, 302117246}, {-125, 37, 1532127368},
            {26, 119, 727830126}, {-121, 13, 1629169776}, {-37, 13, 1505232741}, {126, 85, 318620539},
            {-107, 54, 1435707557}, {24, 125, 741474979}, {-94, 13, 1612849612}, {83, 82, 418403705}};
        for (int[] step : nearest) {
            String told = Told.step(step[0], step[1], 0);
            CHECK.due("grade of " + told, with(step[0], step[1], 0).grade(0, 29), step[2]);
            CHECK.due("grade below 0 of " + told, with(step[0], -step[1], 0).grade(0, 29), -step[2] - 1);
        }
    }

    /** "The ANSWER itself has the same one": of FIXED ones its value is told. */
    private static void theAnswerHasTheSameGrade() {
        for (int across = -1; across <= 1; across++) {
            for (int up = -1; up <= 1; up++) {
                for (int signs = 0; signs < 4; signs++) {
                    Raywalk walk = with(across, up, signs);
                    double value = Double.longBitsToDouble((long) walk.upper(0) << 32 | walk.lower(0) & 0xffffffffL);
                    for (int digits = 0; digits <= 29; digits++) {
                        CHECK.due("grade of " + Told.step(across, up, signs) + " to " + digits,
                                walk.grade(0, digits), (int) Math.floor(value * (1 << digits)));
                    }
                }
            }
        }
    }

    /** grade(): "(it may be -9)", which is no refusal. */
    private static void aGradeMayBeMinus9() {
        // (-3, -4) goes at -2.2143.
        Raywalk walk = with(-3, -4, 0);
        CHECK.due("-9 quarters", walk.grade(0, 2), -9);
        CHECK.due("refusals", walk.house(2), 0);
    }

    /** bearing(): "(it may be -9)", too. */
    private static void aBearingMayBeMinus9() {
        Raywalk walk = new Raywalk();
        walk.addPlace(3, 4);
        walk.addPlace(0, 0);
        CHECK.due("-9 quarters", walk.bearing(0, 1, 2), -9);
        CHECK.due("refusals", walk.house(2), 0);
    }

    /** No digit is lost from one GRADE to the next: half of it, rounded down, is the one before. */
    private static void aGradeOfMoreDigitsIsTwiceThat() {
        for (int across = -127; across <= 127; across += 3) {
            for (int up = -127; up <= 127; up += 5) {
                Raywalk walk = with(across, up, 0);
                for (int digits = 0; digits < 29; digits++) {
                    CHECK.due("grade of " + Told.step(across, up, 0) + " to " + digits,
                            walk.grade(0, digits), walk.grade(0, digits + 1) >> 1);
                }
            }
        }
    }
}
