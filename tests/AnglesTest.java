/** Section 2 (Angles and answers): a test for each sentence that names an edge. */
public final class AnglesTest {
    private static final Check CHECK = new Check();
    /** FRACTIONS that the document tells. */
    private static final long COMMON = 2570638124657944L;
    private static final long BACK_DIAGONAL = 802078686650834L;
    /** Sizes of ACROSS and UP: the least and the greatest ones, and some between. */
    private static final int[] SIZES = {1, 2, 63, 64, 126, 127};

    public static void main(String[] args) {
        upZeroAhead();
        upZeroBack();
        acrossZero();
        diagonalAhead();
        diagonalBack();
        nullIsFixedByItsLook();
        signIsThatOfUp();
        fixedJustOnAxesAndDiagonals();
        leastAndGreatestOfEachExponent();
        headIsCutOff();
        sizeDoesNotTurnOnTheSign();
        sizeBelowAQuarterJustIfAcrossIsAboveZero();
        CHECK.end();
    }

    private static Raywalk with(int across, int up, int signs) {
        Raywalk walk = new Raywalk();
        walk.put(0, across, up, signs);
        return walk;
    }

    private static void dueFixed(int across, int up, int signs, long exponent, long fraction) {
        Raywalk walk = with(across, up, signs);
        long sign = up < 0 || up == 0 && signs >= 2 ? 1 : 0;
        long digits = sign << 63 | exponent << 52 | fraction;
        String step = Told.step(across, up, signs);
        CHECK.due("upper of " + step, walk.upper(0), (int) (digits >>> 32));
        CHECK.due("lower of " + step, walk.lower(0), (int) digits);
    }

    /** "UP is 0, the LOOK's ACROSS above 0: EXPONENT 0, FRACTION 0" (the SIGN as ever) */
    private static void upZeroAhead() {
        for (int size : SIZES) {
            for (int signs = 0; signs < 4; signs++) {
                dueFixed(size, 0, signs, 0, 0);
            }
        }
    }

    /** "UP is 0, the LOOK's ACROSS below 0: EXPONENT 1024, FRACTION 2570638124657944" */
    private static void upZeroBack() {
        for (int size : SIZES) {
            for (int signs = 0; signs < 4; signs++) {
                dueFixed(-size, 0, signs, 1024, COMMON);
            }
        }
    }

    /** "ACROSS is 0, UP is not: EXPONENT 1023, FRACTION 2570638124657944" (of both ZEROS) */
    private static void acrossZero() {
        for (int size : SIZES) {
            for (int signs = 0; signs < 4; signs++) {
                dueFixed(0, size, signs, 1023, COMMON);
                dueFixed(0, -size, signs, 1023, COMMON);
            }
        }
    }

    /** "both are of the same size, not 0, ACROSS above 0: EXPONENT 1022, FRACTION 2570638124657944" */
    private static void diagonalAhead() {
        for (int size : SIZES) {
            dueFixed(size, size, 3, 1022, COMMON);
            dueFixed(size, -size, 3, 1022, COMMON);
        }
    }

    /** "both are of the same size, not 0, ACROSS below 0: EXPONENT 1024, FRACTION 802078686650834" */
    private static void diagonalBack() {
        for (int size : SIZES) {
            dueFixed(-size, size, 3, 1024, BACK_DIAGONAL);
            dueFixed(-size, -size, 3, 1024, BACK_DIAGONAL);
        }
    }

    /** "A STEP is FIXED, if its UP or its ACROSS (or both) is 0": both is 0 goes by the LOOK, not by the same size. */
    private static void nullIsFixedByItsLook() {
        dueFixed(0, 0, 0, 0, 0);
        dueFixed(0, 0, 1, 1024, COMMON);
        dueFixed(0, 0, 2, 0, 0);
        dueFixed(0, 0, 3, 1024, COMMON);
    }

    /** "The first digit is its SIGN: it is always that of its UP." */
    private static void signIsThatOfUp() {
        for (int across : new int[] {-127, -64, -1, 0, 1, 5, 127}) {
            for (int up = -127; up <= 127; up++) {
                for (int signs = 0; signs < 4; signs++) {
                    boolean isBelow = up < 0 || up == 0 && (signs & 2) != 0;
                    CHECK.due("first digit of " + Told.step(across, up, signs), with(across, up, signs).upper(0) < 0, isBelow);
                }
            }
        }
    }

    /** "A STEP is FIXED, if its UP or its ACROSS (or both) is 0, or both have the same size. ... told of FIXED ones alone." */
    private static void fixedJustOnAxesAndDiagonals() {
        for (int size = 2; size <= 127; size++) {
            for (int one : new int[] {size, -size}) {
                for (int less : new int[] {size - 1, 1 - size}) {
                    CHECK.due("lower beside the diagonal", with(one, less, 0).lower(0), -9);
                    CHECK.due("lower beside the diagonal, steep", with(less, one, 0).lower(0), -9);
                }
                for (int small : new int[] {1, -1}) {
                    CHECK.due("lower beside the axis", with(one, small, 0).lower(0), -9);
                    CHECK.due("lower beside the axis, steep", with(small, one, 0).lower(0), -9);
                }
                CHECK.due("lower on the axis", with(one, 0, 0).lower(0), one > 0 ? 0 : (int) COMMON);
                CHECK.due("lower on the upright axis", with(0, one, 0).lower(0), (int) COMMON);
                int ofDiagonal = (int) (one > 0 ? COMMON : BACK_DIAGONAL);
                CHECK.due("lower on the diagonal", with(one, size, 0).lower(0), ofDiagonal);
                CHECK.due("lower on the diagonal below", with(one, -size, 0).lower(0), ofDiagonal);
            }
        }
    }

    /**
     * "if e is the whole number for which the size s is at least 2^e and below 2^(e + 1), EXPONENT is e + 1023" and
     * "e is -7 to 1": of each e the steps with the least and the greatest size, and their first 32 digits.
     */
    private static void leastAndGreatestOfEachExponent() {
        int[][] rims = {
            {127, 1, 0x3f80202a}, {64, 1, 0x3f8fff55},
            {127, 2, 0x3f901fe9}, {32, 1, 0x3f9ffd55},
            {127, 4, 0x3fa01ee3}, {16, 1, 0x3faff55b},
            {127, 8, 0x3fb01acd}, {8, 1, 0x3fbfd5ba},
            {127, 16, 0x3fc00a9d}, {47, 12, 0x3fcfff4c},
            {90, 23, 0x3fd00349}, {108, 59, 0x3fdfffeb},
            {97, 53, 0x3fe00090}, {61, 95, 0x3fefffed},
            {52, 81, 0x3ff00057}, {-27, 59, 0x3fffffe5},
            {-38, 83, 0x4000004b}, {-127, 1, 0x400911db}};
        for (int[] rim : rims) {
            Raywalk walk = with(rim[0], rim[1], 0);
            CHECK.due("upper of " + Told.step(rim[0], rim[1], 0), walk.upper(0), rim[2]);
            CHECK.due("lower of " + Told.step(rim[0], rim[1], 0), walk.lower(0), -9);
        }
        for (int at = 0; at < rims.length; at++) {
            CHECK.due("exponent of rim " + at, rims[at][2] >> 20, 1016 + at / 2);
        }
    }

    /** "Of all others EXPONENT and HEAD are those of the size of the ANGLE, cut off": however near the next HEAD is. */
    private static void headIsCutOff() {
        // The digits behind the HEAD begin with fff7, fffd and ffff, then with 0001, 0005 and 0006.
        int[][] steps = {{-46, 57}, {-61, 64}, {-19, 100}, {107, 25}, {-5, 71}, {-109, 79}};
        for (int[] step : steps) {
            long digits = Double.doubleToRawLongBits(StrictMath.atan2(step[1], step[0]));
            CHECK.due("upper of " + Told.step(step[0], step[1], 0), with(step[0], step[1], 0).upper(0), (int) (digits >> 32));
        }
        CHECK.due("upper of (-19, 100)", with(-19, 100, 0).upper(0), 0x3ffc230d);
    }

    /** "With SIGN 1 its value is that below 0": the size is cut off, never the value rounded down. */
    private static void sizeDoesNotTurnOnTheSign() {
        for (int across = -127; across <= 127; across++) {
            for (int up = 1; up <= 127; up += 7) {
                int above = with(across, up, 0).upper(0);
                CHECK.due("upper of " + Told.step(across, -up, 0), with(across, -up, 0).upper(0), above | 1 << 31);
            }
        }
    }

    /** "and of a size below a quarter of the circle just if ACROSS is above 0" */
    private static void sizeBelowAQuarterJustIfAcrossIsAboveZero() {
        int quarter = (int) ((1023L << 52 | COMMON) >> 32);
        for (int across = 1; across <= 126; across++) {
            CHECK.due("steep ahead", with(across, 127, 0).upper(0) < quarter, true);
            CHECK.due("steep back", with(-across, 127, 0).upper(0) > quarter, true);
            CHECK.due("steep ahead, below", (with(across, -127, 0).upper(0) & ~(1 << 31)) < quarter, true);
            CHECK.due("steep back, below", (with(-across, -127, 0).upper(0) & ~(1 << 31)) > quarter, true);
        }
    }
}
