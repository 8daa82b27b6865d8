import java.util.Set;
import java.util.TreeSet;

/** Section 1 (Steps): a test for each sentence that names an edge. */
public final class StepsTest {
    private static final Check CHECK = new Check();
    private static final int[] HALVES = {0, 2};

    public static void main(String[] args) {
        coordinatesReachFromMinus127To127();
        signOfWhatIsNotZero();
        zeroHasTheSignItWasGiven();
        thereAre256Coordinates();
        nullIfBothAreZero();
        upperByTheSignOfUpAlone();
        zeroCountsAsZeroInALook();
        lookOfNullIsByTheSignOfItsAcross();
        oneRayAsksForOneHalf();
        oneRayAsksForNoCross();
        oneRayAsksForADotAboveZero();
        CHECK.end();
    }

    private static Raywalk with(int across, int up, int signs) {
        Raywalk walk = new Raywalk();
        walk.put(0, across, up, signs);
        return walk;
    }

    /** "A COORDINATE is a whole number from -127 to 127." */
    private static void coordinatesReachFromMinus127To127() {
        for (int rim : new int[] {-127, 127}) {
            int beyond = rim < 0 ? -128 : 128;
            CHECK.due("across of " + rim, with(rim, 1, 0).across(0), rim);
            CHECK.due("up of " + rim, with(1, rim, 0).up(0), rim);
            CHECK.noArgument("across " + beyond, () -> with(beyond, 1, 0));
            CHECK.noArgument("up " + beyond, () -> with(1, beyond, 0));
            int one = rim < 0 ? -1 : 1;
            stretchesTo(one, rim, beyond);
            sumsTo(one, rim, beyond);
        }
    }

    private static void stretchesTo(int one, int rim, int beyond) {
        CHECK.due("across stretched to " + rim, with(one, 0, 0).stretch(0, 127), 0);
        CHECK.due("up stretched to " + rim, with(0, one, 0).stretch(0, 127), 0);
        CHECK.due("across stretched to " + beyond, with(beyond / 2, 1, 0).stretch(0, 2), -9);
        CHECK.due("up stretched to " + beyond, with(1, beyond / 2, 0).stretch(0, 2), -9);
    }

    private static void sumsTo(int one, int rim, int beyond) {
        Raywalk walk = with(rim - one, 0, 0);
        walk.put(1, one, 0, 0);
        walk.put(2, 0, rim - one, 0);
        walk.put(3, 0, one, 0);
        walk.addSteps(0, 1, 4);
        CHECK.due("sum across of " + rim, walk.across(4), rim);
        walk.addSteps(2, 3, 5);
        CHECK.due("sum up of " + rim, walk.up(5), rim);
        CHECK.due("sum across of " + beyond, walk.addSteps(4, 1, 6), -9);
        CHECK.due("sum up of " + beyond, walk.addSteps(3, 5, 6), -9);
    }

    /** "It has a SIGN: 1 if it is below 0, 0 if it is above 0" (of what is not 0 nothing changes by what is given). */
    private static void signOfWhatIsNotZero() {
        for (int signs = 0; signs < 4; signs++) {
            for (int value = 1; value <= 127; value++) {
                CHECK.due("signs above 0", with(value, value, signs).signs(0), 0);
                CHECK.due("signs below 0", with(-value, -value, signs).signs(0), 3);
                CHECK.due("signs of across below 0", with(-value, value, signs).signs(0), 1);
                CHECK.due("signs of up below 0", with(value, -value, signs).signs(0), 2);
            }
        }
    }

    /** "a 0 has SIGN 0 or 1, whichever it was given: these are two ZEROS" */
    private static void zeroHasTheSignItWasGiven() {
        for (int signs = 0; signs < 4; signs++) {
            CHECK.due("null", Told.stepOf(with(0, 0, signs), 0), Told.step(0, 0, signs));
            CHECK.due("across 0", Told.stepOf(with(0, 5, signs), 0), Told.step(0, 5, signs & 1));
            CHECK.due("across 0, down", Told.stepOf(with(0, -5, signs), 0), Told.step(0, -5, signs & 1 | 2));
            CHECK.due("up 0", Told.stepOf(with(5, 0, signs), 0), Told.step(5, 0, signs & 2));
            CHECK.due("up 0, back", Told.stepOf(with(-5, 0, signs), 0), Told.step(-5, 0, signs & 2 | 1));
        }
    }

    /** "and 256 COORDINATES in all" */
    private static void thereAre256Coordinates() {
        Set<String> across = new TreeSet<>();
        Set<String> up = new TreeSet<>();
        for (int value = -127; value <= 127; value++) {
            for (int signs = 0; signs < 4; signs++) {
                Raywalk first = with(value, 1, signs);
                across.add(first.across(0) + " " + first.signs(0) % 2);
                Raywalk second = with(1, value, signs);
                up.add(second.up(0) + " " + second.signs(0) / 2);
            }
        }
        CHECK.due("different across", across.size(), 256);
        CHECK.due("different up", up.size(), 256);
    }

    /** "It is NULL if both are 0." */
    private static void nullIfBothAreZero() {
        for (int signs = 0; signs < 4; signs++) {
            CHECK.due("null of signs " + signs, with(0, 0, signs).side(0, 1), -9);
            for (int one : new int[] {-1, 1}) {
                CHECK.due("across alone 0", with(0, one, signs).side(0, 1), -one);
                CHECK.due("up alone 0", with(one, 0, signs).side(0, 1), 0);
            }
        }
    }

    /** "It is UPPER if the SIGN of its UP is 0, otherwise LOWER." */
    private static void upperByTheSignOfUpAlone() {
        for (int across : new int[] {-127, -1, 0, 1, 127}) {
            for (int signs = 0; signs < 4; signs++) {
                boolean isLower = signs >= 2;
                CHECK.due("up 0 is lower", with(across, 0, signs).upper(0) < 0, isLower);
                CHECK.due("up 1 is lower", with(across, 1, signs).upper(0) < 0, false);
                CHECK.due("up -1 is lower", with(across, -1, signs).upper(0) < 0, true);
            }
        }
    }

    private static void dueOneRay(String what, int[] one, int[] other, boolean want) {
        Raywalk walk = with(one[0], one[1], one[2]);
        walk.put(1, other[0], other[1], other[2]);
        for (int how = 0; how < 2; how++) {
            CHECK.due(what + " same", walk.same(0, 1, how), want);
            CHECK.due(what + " same, the other way", walk.same(1, 0, how), want);
        }
    }

    /** "The LOOK of a STEP ...: its ACROSS and its UP, where a ZERO counts as 0" */
    private static void zeroCountsAsZeroInALook() {
        for (int up : new int[] {-3, 3}) {
            dueOneRay("both zeros across", new int[] {0, up, 0}, new int[] {0, up * 5, 1}, true);
            dueOneRay("minus zero across and a little left", new int[] {0, up, 1}, new int[] {-1, up, 0}, false);
        }
        for (int across : new int[] {-3, 3}) {
            for (int signs : HALVES) {
                dueOneRay("one zero up", new int[] {across, 0, signs}, new int[] {across * 5, 0, signs}, true);
            }
        }
    }

    /** "but of a NULL STEP it is (1, 0) if the SIGN of its ACROSS is 0, otherwise (-1, 0)." */
    private static void lookOfNullIsByTheSignOfItsAcross() {
        for (int half : HALVES) {
            int[] ahead = {1, 0, half};
            int[] back = {-1, 0, half};
            int[] farAhead = {127, 0, half};
            int[] farBack = {-127, 0, half};
            int[] nullAhead = {0, 0, half};
            int[] nullBack = {0, 0, half + 1};
            dueOneRay("null, across sign 0", nullAhead, ahead, true);
            dueOneRay("null, across sign 0, far", nullAhead, farAhead, true);
            dueOneRay("null, across sign 0, back", nullAhead, back, false);
            dueOneRay("null, across sign 1", nullBack, back, true);
            dueOneRay("null, across sign 1, far", nullBack, farBack, true);
            dueOneRay("null, across sign 1, ahead", nullBack, ahead, false);
            dueOneRay("both null", nullAhead, nullBack, false);
        }
    }

    /** "Two STEPS are on one RAY, if both are UPPER or both are LOWER, ..." */
    private static void oneRayAsksForOneHalf() {
        dueOneRay("ahead, two halves", new int[] {1, 0, 0}, new int[] {1, 0, 2}, false);
        dueOneRay("back, two halves", new int[] {-1, 0, 0}, new int[] {-1, 0, 2}, false);
        dueOneRay("null, two halves", new int[] {0, 0, 0}, new int[] {0, 0, 2}, false);
        dueOneRay("null back, two halves", new int[] {0, 0, 1}, new int[] {0, 0, 3}, false);
        dueOneRay("slanted", new int[] {3, 4, 0}, new int[] {3, -4, 0}, false);
    }

    /** "... the CROSS of their LOOKS is 0 ..." */
    private static void oneRayAsksForNoCross() {
        dueOneRay("most alike", new int[] {127, 126, 0}, new int[] {126, 125, 0}, false);
        dueOneRay("most alike, steep", new int[] {-126, 127, 0}, new int[] {-125, 126, 0}, false);
        dueOneRay("most alike, below", new int[] {-127, -126, 0}, new int[] {-126, -125, 0}, false);
        dueOneRay("multiples", new int[] {-3, 4, 0}, new int[] {-93, 124, 0}, true);
        dueOneRay("multiples below", new int[] {-4, -6, 0}, new int[] {-84, -126, 0}, true);
        dueOneRay("a step itself", new int[] {127, -126, 0}, new int[] {127, -126, 0}, true);
    }

    /** "... and the DOT of their LOOKS is above 0." */
    private static void oneRayAsksForADotAboveZero() {
        for (int half : HALVES) {
            dueOneRay("opposite", new int[] {1, 0, half}, new int[] {-1, 0, half}, false);
            dueOneRay("null and opposite", new int[] {0, 0, half}, new int[] {-127, 0, half}, false);
        }
        dueOneRay("opposite, slanted", new int[] {3, 4, 0}, new int[] {-3, -4, 0}, false);
        dueOneRay("opposite, upright", new int[] {0, 4, 0}, new int[] {0, -4, 0}, false);
    }
}
