/** Section 7 (Places): the WALK and its ROUNDS, a test for each sentence that names an edge. */
public final class WalkTest {
    private static final Check CHECK = new Check();

    public static void main(String[] args) {
        withoutPlaces();
        solePlaceIsOneLeg();
        fromTheLastToTheFirst();
        twoPlacesAreTwoLegs();
        centreAtAnEndOfALeg();
        centreStraightBetween();
        centreOnTheLineBeyondALeg();
        centreBesideALeg();
        beginOfAtLeastTheCentresY();
        endOfAtLeastTheCentresY();
        legsPastTheOtherSide();
        levelLegs();
        manyRounds();
        turnedAndMirrored();
        CHECK.end();
    }

    private static Raywalk with(int... spots) {
        Raywalk walk = new Raywalk();
        for (int at = 0; at < spots.length; at += 2) {
            walk.addPlace(spots[at], spots[at + 1]);
        }
        return walk;
    }

    /** With the centre at (0, 0), and all of it moved to a corner of the field. */
    private static void dueRounds(String what, int want, int... spots) {
        CHECK.due(what, with(spots).rounds(), want);
        Raywalk moved = new Raywalk();
        for (int at = 0; at < spots.length; at += 2) {
            moved.addPlace(spots[at] + 45, spots[at + 1] - 45);
        }
        moved.centre(45, -45);
        CHECK.due(what + ", moved", moved.rounds(), want);
        CHECK.due(what + ", refusals", moved.house(2), 0);
    }

    /** "Without PLACES ROUNDS is 0." */
    private static void withoutPlaces() {
        Raywalk walk = new Raywalk();
        CHECK.due("at first", walk.rounds(), 0);
        walk.centre(-64, 63);
        CHECK.due("the centre elsewhere", walk.rounds(), 0);
        walk.addPlace(-64, 63);
        CHECK.due("one at the centre", walk.rounds(), -9);
        walk.removePlace(0);
        CHECK.due("none again", walk.rounds(), 0);
    }

    /** "(of a sole PLACE: one LEG, from it to itself)" */
    private static void solePlaceIsOneLeg() {
        dueRounds("at the centre", -9, 0, 0);
        for (int x = -1; x <= 1; x++) {
            for (int y = -1; y <= 1; y++) {
                dueRounds("at (" + x + ", " + y + ")", x == 0 && y == 0 ? -9 : 0, x, y);
            }
        }
    }

    /** "and from the last one to the first one" */
    private static void fromTheLastToTheFirst() {
        dueRounds("a triangle", 1, 3, -3, 0, 3, -3, -3);
        dueRounds("the centre on the last leg", -9, 3, 3, 9, 0, -3, -3);
        dueRounds("the last leg alone passes at the left", 1, -3, -3, 3, 0, -3, 3);
        dueRounds("the same the other way", -1, -3, 3, 3, 0, -3, -3);
    }

    private static void twoPlacesAreTwoLegs() {
        dueRounds("at the right", 0, 3, -3, 3, 3);
        dueRounds("at the left", 0, -3, -3, -3, 3);
        dueRounds("above", 0, -3, 1, 3, 1);
        dueRounds("with the centre between", -9, -1, -1, 1, 1);
    }

    /** "The CENTRE is on a LEG, if it is at an end of it ..." */
    private static void centreAtAnEndOfALeg() {
        dueRounds("the first", -9, 0, 0, 9, 0, 3, 3);
        dueRounds("one between", -9, 9, 0, 0, 0, 3, 3);
        dueRounds("the last", -9, 9, 0, 3, 3, 0, 0);
        dueRounds("one of two", -9, 9, 1, 0, 0);
    }

    /** "... or straight between both." */
    private static void centreStraightBetween() {
        int[][] ways = {{1, 0}, {0, 1}, {1, 1}, {-1, 1}, {2, 1}, {-3, 2}, {5, -4}};
        for (int[] way : ways) {
            for (int far = 1; far <= 2; far++) {
                dueRounds("first leg", -9, -way[0], -way[1], way[0] * far, way[1] * far, 13, 13);
                dueRounds("second leg", -9, 13, 13, way[0], way[1], -way[0] * far, -way[1] * far);
                dueRounds("last leg", -9, way[0] * far, way[1] * far, 13, 13, -way[0], -way[1]);
            }
        }
        CHECK.due("across the field", with(-64, -64, 63, 63, 63, 0).rounds(), -9);
    }

    /** On the same line, but not between: the LEG goes off from the CENTRE. */
    private static void centreOnTheLineBeyondALeg() {
        int[][] ways = {{1, 0}, {0, 1}, {1, 1}, {-1, 1}, {2, 1}, {-3, 2}, {5, -4}, {-1, 0}, {0, -1}};
        for (int[] way : ways) {
            dueRounds("beyond the begin", 0, way[0], way[1], way[0] * 2, way[1] * 2);
            dueRounds("beyond the end", 0, way[0] * 2, way[1] * 2, way[0], way[1]);
            dueRounds("of a triangle", 0, way[0] * 2, way[1] * 2, way[0], way[1], way[0] * 2 - way[1], way[1] * 2 + way[0]);
        }
    }

    private static void centreBesideALeg() {
        dueRounds("right of it by a CROSS of -1", -1, -1, -1, -1, 0, 5, 1);
        dueRounds("left of it by a CROSS of 1", 1, -1, 0, -1, -1, 5, 1);
        dueRounds("left of a way up by a CROSS of 1", 1, 1, -1, 1, 0, -5, 1);
        CHECK.due("just right of it", with(-64, -63, 63, 63, -64, 62).rounds(), 0);
        CHECK.due("just left of it", with(-63, -64, 63, 63, -64, 63).rounds(), 1);
        CHECK.due("just below it", with(-64, -62, 63, 63, 62, -64).rounds(), -1);
        CHECK.due("just above it", with(-1, 0, 1, -1, 5, 5).rounds(), 1);
    }

    /** "1, if the LEG's begin has a y of at least the CENTRE's, its end has one below that, and the CENTRE is left of the LEG" */
    private static void beginOfAtLeastTheCentresY() {
        dueRounds("down from the centre's y at the left", 1, -3, 0, -3, -1, 5, 0, 0, 5);
        dueRounds("down from above it at the left", 1, -3, 1, -3, -1, 5, 0, 0, 5);
        dueRounds("down to the centre's y at the left is not below", 0, -3, 1, -3, 0, -5, 1);
        dueRounds("down to it, then on", 1, -3, 1, -3, 0, -3, -1, 5, 0);
        dueRounds("touching it from below, at the left", 0, -3, 0, -4, -4, -5, -4);
        dueRounds("touching it from above, at the left", 0, -3, 0, -4, 4, -5, 4);
    }

    /** "-1, if the begin has a y below the CENTRE's, the end has one of at least that, and the CENTRE is right of the LEG" */
    private static void endOfAtLeastTheCentresY() {
        dueRounds("up to the centre's y at the left", -1, -3, -1, -3, 0, 0, 5, 5, 0);
        dueRounds("up past it at the left", -1, -3, -1, -3, 1, 0, 5, 5, 0);
        dueRounds("up from the centre's y is not from below", 0, -3, 0, -3, 1, -5, 1);
        dueRounds("up to it, then on", -1, -3, -1, -3, 0, -3, 1, 5, 0);
    }

    /** "otherwise 0": LEGS that pass at the right of the CENTRE tell nothing. */
    private static void legsPastTheOtherSide() {
        dueRounds("there and back at the right", 0, 3, -3, 4, 3, 5, -3);
        dueRounds("touching the centre's y from below, at the right", 0, 3, 0, 4, -4, 5, -4);
        dueRounds("touching the centre's y from above, at the right", 0, 3, 0, 5, 4, 4, 4);
        dueRounds("all above", 0, 5, 1, 0, 2, -5, 1);
        dueRounds("all below", 0, 5, -1, 0, -2, -5, -1);
        dueRounds("all at the right", 0, 1, -5, 2, 0, 1, 5);
        dueRounds("all at the left", 0, -1, -5, -2, 0, -1, 5);
        dueRounds("a diamond", 1, 3, 0, 0, 3, -3, 0, 0, -3);
        dueRounds("a diamond to the right", -1, 3, 0, 0, -3, -3, 0, 0, 3);
    }

    /** LEGS at the very y of the CENTRE, at its left and at its right. */
    private static void levelLegs() {
        dueRounds("with level sides", 1, 5, 0, 3, 0, 0, 3, -3, 0, -5, 0, 0, -3);
        dueRounds("with level sides, to the right", -1, 3, 0, 5, 0, 0, -3, -5, 0, -3, 0, 0, 3);
        dueRounds("outside, with a level side at the right", 0, 3, 0, 5, 0, 4, 3);
        dueRounds("outside, with a level side at the left", 0, -3, 0, -5, 0, -4, 3);
        dueRounds("outside, with a level side at the left, below", 0, -3, 0, -5, 0, -4, -3);
        dueRounds("level through the centre", -9, 3, 0, -3, 0, 0, 5);
    }

    private static final int[][] DIAL = {{12, 0}, {10, 6}, {6, 10}, {0, 12}, {-6, 10}, {-10, 6}, {-12, 0}, {-10, -6}, {-6, -10},
        {0, -12}, {6, -10}, {10, -6}};

    /** Twelve places on a dial, each next one some hours on: that often round, to the left or to the right. */
    private static void manyRounds() {
        for (int hours : new int[] {1, 5, 7, 11}) {
            int[] spots = new int[24];
            for (int number = 0; number < 12; number++) {
                int[] spot = DIAL[number * hours % 12];
                spots[2 * number] = spot[0];
                spots[2 * number + 1] = spot[1];
            }
            dueRounds(hours + " hours on", hours < 6 ? hours : hours - 12, spots);
        }
        dueRounds("twice", 2, 3, -3, 3, 3, -3, 3, -3, -3, 4, -4, 4, 4, -4, 4, -4, -4);
        dueRounds("there and back again", 0, 3, -3, 3, 3, -3, 3, -4, -4, -4, 4, 4, 4, 4, -4, -3, -3);
    }

    /** turnPlaces() and mirrorPlaces() take the CENTRE along: so often round as before, and the other way. */
    private static void turnedAndMirrored() {
        Raywalk walk = with(12, 0, 0, 13, -12, 1, 1, -13, 14, 1, -1, 14);
        walk.centre(1, 1);
        int before = walk.rounds();
        CHECK.due("before", before, 1);
        for (int times = 1; times <= 4; times++) {
            walk.turnPlaces();
            CHECK.due("turned " + times + " times", walk.rounds(), before);
        }
        walk.mirrorPlaces();
        CHECK.due("mirrored", walk.rounds(), -before);
        walk.mirrorPlaces();
        CHECK.due("mirrored twice", walk.rounds(), before);
    }
}
