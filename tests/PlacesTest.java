/** Section 7 (Places), and what is asked of places: a test for each sentence that names an edge. */
public final class PlacesTest {
    private static final Check CHECK = new Check();

    public static void main(String[] args) {
        atMostTwelve();
        numbersWithoutGaps();
        placesReachFromMinus64To63();
        noTwoAtTheSameSpot();
        centreAtFirstAndItsRange();
        zerosOfStepsHaveSignZero();
        roundLeavesOutTheCentre();
        roundBeginsBehindTheHalfTurn();
        nearerFirstOnOneRay();
        emptyRound();
        starNeedsTheLeftSide();
        starMayHaveOneRay();
        starOnOneRayIsNone();
        starGoesFromTheLastToTheFirst();
        starAreaOfAnyRound();
        cornersAreStrict();
        soleAndTwoCorners();
        hullOfOneLine();
        hullBegin();
        hullGoesToTheLeft();
        hullAreaOfTheField();
        waysAcrossTheField();
        CHECK.end();
    }

    private static Raywalk with(int... spots) {
        Raywalk walk = new Raywalk();
        for (int at = 0; at < spots.length; at += 2) {
            walk.addPlace(spots[at], spots[at + 1]);
        }
        return walk;
    }

    private static Raywalk about(int x, int y, int... spots) {
        Raywalk walk = with(spots);
        walk.centre(x, y);
        return walk;
    }

    private static Raywalk full() {
        Raywalk walk = new Raywalk();
        for (int number = 0; number < 12; number++) {
            walk.addPlace(number, number * number % 7);
        }
        return walk;
    }

    /** "There is a row of at most twelve PLACES" */
    private static void atMostTwelve() {
        Raywalk walk = new Raywalk();
        for (int number = 0; number < 12; number++) {
            CHECK.due("place " + number, walk.addPlace(number, 1), number);
        }
        CHECK.due("a thirteenth", walk.addPlace(-1, -1), -9);
        CHECK.due("places", walk.places(), 12);
        CHECK.due("one goes", walk.removePlace(3), 11);
        CHECK.due("one more again", walk.addPlace(-1, -1), 11);
        CHECK.due("a thirteenth again", walk.addPlace(-2, -2), -9);
        CHECK.due("all corners but those between", walk.hullText(), "11 10 0");
        CHECK.due("all in the round", walk.roundText(), "11 10 9 8 7 6 5 4 3 2 1 0");
    }

    /** "told by numbers from 0 on without gaps ... a number that none has is no PLACE" */
    private static void numbersWithoutGaps() {
        for (int removed = 0; removed < 12; removed++) {
            Raywalk walk = full();
            CHECK.due("left", walk.removePlace(removed), 11);
            for (int number = 0; number < 11; number++) {
                int was = number < removed ? number : number + 1;
                CHECK.due("x of " + number + " without " + removed, walk.place(number, false), was);
                CHECK.due("y of " + number + " without " + removed, walk.place(number, true), was * was % 7);
            }
            CHECK.noCell("place 11 without " + removed, () -> walk.place(11, false));
        }
        Raywalk walk = with(5, 5);
        CHECK.due("the sole one goes", walk.removePlace(0), 0);
        CHECK.noCell("place 0 of none", () -> walk.place(0, false));
        CHECK.due("round of none", walk.roundText(), "");
        CHECK.due("hull of none", walk.hullText(), "");
        CHECK.due("new first", walk.addPlace(6, 6), 0);
    }

    /** "A PLACE has an x and a y, each from -64 to 63" */
    private static void placesReachFromMinus64To63() {
        for (int rim : new int[] {-64, 63}) {
            int beyond = rim < 0 ? -65 : 64;
            Raywalk walk = with(rim, 0, 0, rim);
            CHECK.due("x", walk.place(0, false), rim);
            CHECK.due("y", walk.place(1, true), rim);
            CHECK.due("to the rim", walk.movePlace(0, rim, rim), 1);
            CHECK.noArgument("add x " + beyond, () -> walk.addPlace(beyond, 0));
            CHECK.noArgument("add y " + beyond, () -> walk.addPlace(0, beyond));
            CHECK.noArgument("move x " + beyond, () -> walk.movePlace(0, beyond, 0));
            CHECK.noArgument("move y " + beyond, () -> walk.movePlace(0, 0, beyond));
        }
    }

    /** "no two PLACES are at the same x and y" */
    private static void noTwoAtTheSameSpot() {
        for (int number = 0; number < 3; number++) {
            Raywalk walk = with(3, 4, -3, 4, 3, -4);
            int x = walk.place(number, false);
            int y = walk.place(number, true);
            CHECK.due("added where " + number + " is", walk.addPlace(x, y), -9);
            for (int other = 0; other < 3; other++) {
                CHECK.due("moved " + other + " to where " + number + " is", walk.movePlace(other, x, y), other == number ? 0 : -9);
            }
            CHECK.due("refusals", walk.house(2), 3);
            CHECK.due("the same x alone", walk.movePlace(number, x, 60), 1);
            CHECK.due("the same y alone", walk.movePlace(number, 60, y), 1);
            CHECK.due("where it was is free", walk.addPlace(x, y), 3);
        }
        Raywalk walk = with(3, 4);
        walk.removePlace(0);
        CHECK.due("where one was removed", walk.addPlace(3, 4), 0);
        CHECK.due("a place at the centre", walk.addPlace(0, 0), 1);
    }

    /** "There is a CENTRE, with an x and a y from -64 to 63; at first (0, 0)." */
    private static void centreAtFirstAndItsRange() {
        Raywalk walk = new Raywalk();
        CHECK.due("x at first", walk.centreAt(false), 0);
        CHECK.due("y at first", walk.centreAt(true), 0);
        CHECK.due("where it was", walk.centre(0, 0), 0);
        CHECK.due("least", walk.centre(-64, -64), 1);
        CHECK.due("x alone", walk.centre(63, -64), 1);
        CHECK.due("y alone", walk.centre(63, 63), 1);
        CHECK.due("once more", walk.centre(63, 63), 0);
        CHECK.noArgument("x 64", () -> walk.centre(64, 0));
        CHECK.noArgument("x -65", () -> walk.centre(-65, 0));
        CHECK.noArgument("y 64", () -> walk.centre(0, 64));
        CHECK.noArgument("y -65", () -> walk.centre(0, -65));
        CHECK.due("a place there", walk.addPlace(63, 63), 0);
        CHECK.due("and off from it", walk.centre(62, 63), 1);
        CHECK.due("and on to it", walk.centre(63, 63), 1);
    }

    /** "each 0 has SIGN 0": a way straight back goes at H, never at -H; one to the right at 0, not at the other 0. */
    private static void zerosOfStepsHaveSignZero() {
        Raywalk walk = with(0, 0, -1, 0, 1, 0, 0, 1, 0, -1, 1, -1);
        CHECK.due("bearing back", walk.bearing(0, 1, 0), 3);
        CHECK.due("bearing ahead", walk.bearing(0, 2, 29), 0);
        CHECK.due("back is last", walk.bearingOrder(0, 1, 3), 1);
        CHECK.due("ahead is behind what is below", walk.bearingOrder(0, 5, 2), -1);
        CHECK.due("down is ahead of back", walk.bearingOrder(0, 4, 1), -1);
        CHECK.due("round", walk.roundText(), "4 5 2 3 1");
    }

    /** "The ROUND is the row of all PLACES that are not at the CENTRE" */
    private static void roundLeavesOutTheCentre() {
        Raywalk walk = with(1, 0, 0, 0, 0, 1);
        CHECK.due("round", walk.roundText(), "0 2");
        CHECK.due("count", walk.roundCount(), 2);
        walk.centre(1, 0);
        CHECK.due("round about a place", walk.roundText(), "2 1");
        walk.centre(1, 1);
        CHECK.due("round about none", walk.roundText(), "1 0 2");
        CHECK.due("count about none", walk.roundCount(), 3);
        CHECK.due("a neighbour is not at the centre", about(0, 0, 0, 1).roundCount(), 1);
        CHECK.due("nor one beside it", about(0, 0, -1, 0).roundCount(), 1);
    }

    /** "ordered by the STEPS from the CENTRE to them: one whose STEP stands AHEAD comes first" */
    private static void roundBeginsBehindTheHalfTurn() {
        Raywalk walk = with(-9, 0, -9, -1, 0, -9, 9, -1, 9, 0, 9, 1, 0, 9, -9, 1);
        CHECK.due("round", walk.roundText(), "1 2 3 4 5 6 7 0");
        Raywalk moved = about(5, -7, -4, -7, -4, -8, 5, -16, 14, -8, 14, -7, 14, -6, 5, 2, -4, -6);
        CHECK.due("round about (5, -7)", moved.roundText(), "1 2 3 4 5 6 7 0");
        Raywalk fine = about(-64, -64, 62, 63, 63, 62, 63, 63, 61, 62, 62, 61);
        CHECK.due("fine differences", fine.roundText(), "4 1 2 0 3");
    }

    /** "on one RAY that which is nearer to the CENTRE" */
    private static void nearerFirstOnOneRay() {
        CHECK.due("ahead", about(1, 1, 9, 1, 3, 1, 2, 1, 63, 1).roundText(), "2 1 0 3");
        CHECK.due("back", about(1, 1, -9, 1, -3, 1, 0, 1, -64, 1).roundText(), "2 1 0 3");
        CHECK.due("up", about(1, 1, 1, 9, 1, 3, 1, 2, 1, 63).roundText(), "2 1 0 3");
        CHECK.due("down", about(1, 1, 1, -9, 1, -3, 1, 0, 1, -64).roundText(), "2 1 0 3");
        CHECK.due("slanted", about(1, 1, 7, 10, 3, 4, 5, 7).roundText(), "1 2 0");
        CHECK.due("slanted back", about(1, 1, -5, -8, -1, -2, -3, -5).roundText(), "1 2 0");
        CHECK.due("both ways", about(0, 0, -4, -4, 4, 4, -2, -2, 2, 2).roundText(), "2 0 3 1");
    }

    /** "(An empty ROUND is no STAR.)" */
    private static void emptyRound() {
        for (Raywalk walk : new Raywalk[] {new Raywalk(), about(5, 5, 5, 5)}) {
            CHECK.due("count", walk.roundCount(), 0);
            CHECK.due("text", walk.roundText(), "");
            CHECK.due("star", walk.isStar(), false);
            CHECK.due("area", walk.starArea(), 0);
            CHECK.due("sound", walk.isSound(), true);
        }
    }

    private static void dueStar(String what, boolean want, int area, int... spots) {
        Raywalk walk = with(spots);
        CHECK.due(what + " is a star", walk.isStar(), want);
        CHECK.due("star area of " + what, walk.starArea(), area);
        CHECK.due(what + " is sound", walk.isSound(), true);
    }

    /** "or the next one's lies at the left SIDE (1) of its own": just below the half turn, not at it, nor beyond. */
    private static void starNeedsTheLeftSide() {
        dueStar("a triangle", true, 6 * 5, 3, -1, 0, 4, -3, -1);
        dueStar("a narrow triangle", true, 64 + 63 + 127, 63, -1, 0, 1, -64, -1);
        dueStar("one at the half turn", false, 18, 3, 0, 0, 3, -3, 0);
        dueStar("one beyond the half turn", false, 12, 3, 1, 0, 3, -3, 1);
        dueStar("the half turn between two below", false, 18, 3, 0, 0, -3, -3, 0);
        dueStar("a quarter alone", false, 0, 3, 0, 0, 3);
    }

    /** "the STEPS from the CENTRE are on one RAY, or ..." */
    private static void starMayHaveOneRay() {
        dueStar("two on a ray", true, 45, 3, 0, 6, 0, 0, 3, -3, 0, 0, -3);
        dueStar("two on the last ray", true, 9 + 18 + 9 + 9, 3, 0, 0, 3, -3, 0, -6, 0, 0, -3);
        dueStar("two on each ray", true, 4 * 2 * 1, 1, 0, 2, 0, 0, 1, 0, 2, -1, 0, -2, 0, 0, -1, 0, -2);
    }

    /** "and not all of them are on one RAY" */
    private static void starOnOneRayIsNone() {
        dueStar("one place", false, 0, 5, 5);
        dueStar("three on a ray", false, 0, 1, 1, 2, 2, 3, 3);
        dueStar("three on the last ray", false, 0, -1, 0, -2, 0, -3, 0);
        dueStar("two opposite ones", false, 0, 5, 5, -5, -5);
        dueStar("two opposite ones, flat", false, 0, 5, 0, -5, 0);
    }

    /** "(from the last one to the first one, too)" */
    private static void starGoesFromTheLastToTheFirst() {
        // From the first to the last, each next one is at the left; only from the last to the first it is not.
        dueStar("a gap over the half turn", false, 2 + 2 - 4, 1, -2, 1, 0, 1, 2);
        dueStar("a gap of just the half turn", false, 4 + 4, 0, -2, 2, 0, 0, 2);
        dueStar("a gap of just the half turn from the first to the second", false, 9 + 9 + 6, -3, -1, 3, 1, 0, 3, -3, 1);
        dueStar("a gap over the half turn from the first to the second", false, -3 + 9 + 9 + 6, -3, -1, 3, 2, 0, 3, -3, 1);
        dueStar("a gap of just the half turn from the second to the third", false, 4 + 0 + 4 + 4, -2, -1, 0, -2, 0, 2, -2, 1);
        dueStar("no gap", true, 2 + 2 + 2 + 2, 0, -2, 1, 0, 0, 2, -1, 0);
    }

    /** "The STAR AREA is the sum of the CROSS ... (of the last one to the first one, too)", also if it is no STAR. */
    private static void starAreaOfAnyRound() {
        CHECK.due("all the field", about(0, 0, -64, -64, 63, -64, 63, 63, -64, 63).starArea(), 2 * 127 * 127);
        CHECK.due("from a corner", about(-64, -64, 63, -64, 63, 63, -64, 63).starArea(), 127 * 127);
        CHECK.due("from a corner, a star", about(-64, -64, 63, -64, 63, 63, -64, 63).isStar(), false);
        CHECK.due("from outside", about(0, 0, 2, -1, 2, 1, 4, -1, 4, 1).starArea(), 2 + 8 + 2 - 4);
        CHECK.due("with the centre as a place", about(1, 1, 1, 1, 4, 1, 1, 4, -2, 1, 1, -2).starArea(), 36);
    }

    private static void dueHull(String what, String text, int area, int... spots) {
        Raywalk walk = with(spots);
        CHECK.due("hull of " + what, walk.hullText(), text);
        CHECK.due("corners of " + what, walk.hullCount(), text.isEmpty() ? 0 : text.split(" ").length);
        CHECK.due("hull area of " + what, walk.hullArea(), area);
        CHECK.due("hull area of " + what + " turned", walk.turnPlaces(), area);
        CHECK.due("hull area of " + what + " mirrored", walk.mirrorPlaces(), area);
        CHECK.due(what + " is sound", walk.isSound(), true);
    }

    /** "so that all other PLACES are strictly on one side of it": one between two CORNERS is none. */
    private static void cornersAreStrict() {
        dueHull("a square with its sides", "0 2 4 6", 32, 0, 0, 2, 0, 4, 0, 4, 2, 4, 4, 2, 4, 0, 4, 0, 2, 2, 2);
        dueHull("a flat dent", "0 1 3", 2 * 127 * 126 / 2, -64, -64, 63, -64, 0, -63, 0, 62);
        dueHull("a side just bent out", "1 2 3 0", 127 * 4, -64, 0, 0, -2, 63, 0, 0, 2);
        dueHull("a slanted side", "0 2 4", 36, 0, 0, 3, 0, 6, 0, 3, 3, 0, 6, 1, 1);
        dueHull("a side bent by one", "0 1 2 3", 2 * 63 * 4, 0, 0, 63, 1, 63, 5, 0, 4);
    }

    /** "(a sole PLACE is one)" */
    private static void soleAndTwoCorners() {
        dueHull("none", "", 0);
        dueHull("a sole one", "0", 0, 63, -64);
        dueHull("two", "1 0", 0, 63, 63, -64, -64);
        dueHull("two level ones", "1 0", 0, 63, 5, -64, 5);
        dueHull("a triangle", "0 1 2", 1, 0, 0, 1, 0, 0, 1);
    }

    /** "If all PLACES are on one line, the CORNERS are both ends." */
    private static void hullOfOneLine() {
        dueHull("a level line", "3 1", 0, 2, 7, 9, 7, 3, 7, 1, 7);
        dueHull("an upright line", "3 1", 0, 7, 2, 7, 9, 7, 3, 7, 1);
        dueHull("a rising line", "3 1", 0, 2, 4, 9, 18, 3, 6, 1, 2);
        dueHull("a falling line", "1 3", 0, 2, -4, 9, -18, 3, -6, 1, -2);
        dueHull("a line through the centre", "2 0", 0, 4, 4, 0, 0, -4, -4);
    }

    /** "from that with the least y on (of several that with the least x)" */
    private static void hullBegin() {
        dueHull("the least y last", "3 1 0 2", 9 + 45 + 15 - 18, 6, 5, 9, 0, 3, 5, 3, -1);
        dueHull("the least x of two", "2 1 0", 14 * 3, 3, 3, 9, 0, -5, 0);
        dueHull("the least x of three", "1 2 3", 14 * 3, 0, 0, -5, 0, 9, 0, 3, 3);
        dueHull("the least y, not the least x", "1 2 0", 25 + 24 - 20, 0, 4, 5, 0, 6, 5);
    }

    /** "then as they follow to the left round the field" */
    private static void hullGoesToTheLeft() {
        dueHull("eight", "7 2 0 4 6 3 1 5", 2 * (6 * 6 - 4 * 2), 3, -1, -3, 1, 1, -3, -1, 3, 3, 1, -3, -1, 1, 3, -1, -3);
    }

    /** "The HULL AREA is twice the area within" */
    private static void hullAreaOfTheField() {
        dueHull("all the field", "0 2 1 3", 2 * 127 * 127, -64, -64, 63, 63, 63, -64, -64, 63);
        dueHull("far from the centre", "0 1 3 2", 2, 62, 62, 63, 62, 62, 63, 63, 63);
    }

    /** left(), bearingOrder() and bearing() of the longest ways, which differ by the least. */
    private static void waysAcrossTheField() {
        Raywalk walk = with(-64, -64, 63, 63, 63, 62, 62, 61, 62, 62, -64, 63, 63, -64);
        CHECK.due("left of the diagonal", walk.left(0, 2, 1), 1);
        CHECK.due("right of the diagonal", walk.left(0, 1, 2), -1);
        CHECK.due("left by a CROSS of 1", walk.left(0, 3, 2), 1);
        CHECK.due("right by a CROSS of -1", walk.left(0, 2, 3), -1);
        CHECK.due("on the diagonal", walk.left(0, 1, 4), 0);
        CHECK.due("behind on the diagonal", walk.left(4, 1, 0), 0);
        CHECK.due("the second is the third", walk.left(0, 5, 5), 0);
        CHECK.due("order of the least difference", walk.bearingOrder(0, 3, 2), -1);
        CHECK.due("order of one ray", walk.bearingOrder(0, 1, 4), 0);
        CHECK.due("order of both ways on a line", walk.bearingOrder(4, 0, 1), -1);
        CHECK.due("order of a place with itself", walk.bearingOrder(0, 5, 5), 0);
        CHECK.due("an eighth", walk.bearing(0, 1, 29), 421657428);
        CHECK.due("three eighths below 0", walk.bearing(1, 0, 29), -1264972285);
        CHECK.due("just below an eighth", walk.bearing(0, 2, 2), 3);
        CHECK.due("three eighths", walk.bearing(6, 5, 29), 1264972284);
    }
}
