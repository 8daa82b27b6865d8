/** Promises 27 to 40: what is asked of places. */
public final class PlaceAsksTest {
    private static final Check CHECK = new Check();

    public static void main(String[] args) {
        placesAndCentre();
        bearing();
        bearingOrder();
        left();
        withoutPlaces();
        solePlace();
        round();
        stars();
        hull();
        hullOfALine();
        rounds();
        roundsOnALeg();
        CHECK.end();
    }

    private static Raywalk with(int... spots) {
        Raywalk walk = new Raywalk();
        for (int at = 0; at < spots.length; at += 2) {
            walk.addPlace(spots[at], spots[at + 1]);
        }
        return walk;
    }

    private static void placesAndCentre() {
        Raywalk walk = with(-9, 5, 6, -9);
        CHECK.due("places", walk.places(), 2);
        CHECK.due("x of -9", walk.place(0, false), -9);
        CHECK.due("y", walk.place(0, true), 5);
        CHECK.due("y of -9", walk.place(1, true), -9);
        walk.centre(-9, 8);
        CHECK.due("centre x", walk.centreAt(false), -9);
        CHECK.due("centre y", walk.centreAt(true), 8);
        CHECK.noCell("place(2, ..)", () -> walk.place(2, false));
        CHECK.noCell("place(-1, ..)", () -> walk.place(-1, true));
        CHECK.noCell("place(0, ..) of none", () -> new Raywalk().place(0, true));
    }

    private static void bearing() {
        Raywalk walk = with(0, 0, 4, 4, -5, 0, 0, -1);
        CHECK.due("an eighth", walk.bearing(0, 1, 29), 421657428);
        CHECK.due("back", walk.bearing(1, 0, 29), -1264972285);
        CHECK.due("half turn, never LOWER", walk.bearing(0, 2, 0), 3);
        CHECK.due("0", walk.bearing(2, 0, 29), 0);
        CHECK.due("down", walk.bearing(0, 3, 0), -2);
        CHECK.due("itself", walk.bearing(1, 1, 0), -9);
        CHECK.due("refusals", walk.house(2), 0);
        CHECK.noCell("from 4", () -> walk.bearing(4, 0, 30));
        CHECK.noCell("to -1", () -> walk.bearing(0, -1, 0));
        CHECK.noArgument("30 digits", () -> walk.bearing(0, 1, 30));
        CHECK.noArgument("-1 digits, itself", () -> walk.bearing(1, 1, -1));
    }

    private static void bearingOrder() {
        Raywalk walk = with(0, 0, 4, 0, 4, 4, 2, 2, -1, 0, 3, -1);
        CHECK.due("ahead", walk.bearingOrder(0, 1, 2), -1);
        CHECK.due("behind", walk.bearingOrder(0, 2, 1), 1);
        CHECK.due("one ray", walk.bearingOrder(0, 2, 3), 0);
        CHECK.due("itself with itself", walk.bearingOrder(0, 2, 2), 0);
        CHECK.due("0 and half turn", walk.bearingOrder(0, 1, 4), -1);
        CHECK.due("half turn and below", walk.bearingOrder(0, 4, 5), 1);
        CHECK.due("one is from", walk.bearingOrder(1, 1, 2), -9);
        CHECK.due("other is from", walk.bearingOrder(1, 2, 1), -9);
        CHECK.noCell("from 6", () -> walk.bearingOrder(6, 0, 1));
        CHECK.noCell("one -1", () -> walk.bearingOrder(0, -1, 1));
        CHECK.noCell("other 6", () -> walk.bearingOrder(0, 0, 6));
    }

    private static void left() {
        Raywalk walk = with(0, 0, 4, 0, 4, 4, -1, 0, 2, 0);
        CHECK.due("left", walk.left(0, 1, 2), 1);
        CHECK.due("right", walk.left(0, 2, 1), -1);
        CHECK.due("ahead on the line", walk.left(0, 1, 4), 0);
        CHECK.due("behind on the line", walk.left(0, 1, 3), 0);
        CHECK.due("second twice", walk.left(0, 1, 1), 0);
        CHECK.due("second is first", walk.left(0, 0, 1), -9);
        CHECK.due("third is first", walk.left(0, 1, 0), -9);
        CHECK.noCell("from 5", () -> walk.left(5, 5, 5));
        CHECK.noCell("to -1", () -> walk.left(0, -1, 0));
        CHECK.noCell("third 5", () -> walk.left(0, 0, 5));
    }

    private static void withoutPlaces() {
        Raywalk walk = new Raywalk();
        CHECK.due("roundCount", walk.roundCount(), 0);
        CHECK.due("roundText", walk.roundText(), "");
        CHECK.due("isStar", walk.isStar(), false);
        CHECK.due("starArea", walk.starArea(), 0);
        CHECK.due("hullCount", walk.hullCount(), 0);
        CHECK.due("hullText", walk.hullText(), "");
        CHECK.due("hullArea", walk.hullArea(), 0);
        CHECK.due("rounds", walk.rounds(), 0);
    }

    private static void solePlace() {
        Raywalk walk = with(5, 6);
        CHECK.due("roundText", walk.roundText(), "0");
        CHECK.due("isStar", walk.isStar(), false);
        CHECK.due("starArea", walk.starArea(), 0);
        CHECK.due("hullText", walk.hullText(), "0");
        CHECK.due("hullArea", walk.hullArea(), 0);
        CHECK.due("rounds", walk.rounds(), 0);
        walk.centre(5, 6);
        CHECK.due("rounds at the centre", walk.rounds(), -9);
        CHECK.due("round at the centre", walk.roundText(), "");
        CHECK.due("rounds is no act", walk.house(2), 0);
    }

    private static void round() {
        // On one ray nearer first; the half turn is last, as all zeros have sign 0.
        Raywalk walk = with(-4, 0, -2, 0, 0, 3, 6, 6, 2, 2, 4, 0, 1, -5, -1, -1, 0, 0, 0, -9);
        CHECK.due("roundText", walk.roundText(), "7 9 6 5 4 3 2 1 0");
        CHECK.due("roundCount", walk.roundCount(), 9);
        walk.centre(2, 2);
        CHECK.due("about (2, 2)", walk.roundText(), "0 1 8 7 9 6 5 3 2");
    }

    private static void stars() {
        Raywalk square = with(3, 0, 0, 3, -3, 0, 0, -3);
        CHECK.due("square", square.isStar(), true);
        CHECK.due("square's area", square.starArea(), 36);
        square.addPlace(6, 0);
        CHECK.due("with two on a ray", square.isStar(), true);
        CHECK.due("its area", square.starArea(), 54 - 9);
        CHECK.due("opposite two", with(3, 0, -3, 0).isStar(), false);
        CHECK.due("half turn between", with(3, 0, 0, 3, -3, 0).isStar(), false);
        CHECK.due("its area", with(3, 0, 0, 3, -3, 0).starArea(), 18);
        CHECK.due("more than a half turn between", with(3, 1, 0, 3, -3, 1).isStar(), false);
        CHECK.due("its area", with(3, 1, 0, 3, -3, 1).starArea(), 9 + 9 - 6);
        CHECK.due("one ray", with(1, 1, 2, 2, 5, 5).isStar(), false);
        CHECK.due("triangle", with(3, -1, 0, 3, -3, -1).isStar(), true);
        CHECK.due("only a quarter", with(3, 0, 0, 3).isStar(), false);
        CHECK.due("its area", with(3, 0, 0, 3).starArea(), 0);
    }

    private static void hull() {
        Raywalk walk = with(0, 0, 2, 0, 4, 0, 4, 4, 2, 2, 0, 4, 4, 2, 2, 4);
        CHECK.due("square", walk.hullText(), "0 2 3 5");
        CHECK.due("count", walk.hullCount(), 4);
        CHECK.due("area", walk.hullArea(), 32);
        CHECK.due("least y first", with(1, 5, 2, -5, 9, 9).hullText(), "1 2 0");
        CHECK.due("least x of several", with(5, 0, -5, 0, 0, 3).hullText(), "1 0 2");
        CHECK.due("its area", with(5, 0, -5, 0, 0, 3).hullArea(), 30);
        CHECK.due("all the field", with(-64, -64, 63, 63, 63, -64, -64, 63).hullArea(), 32258);
    }

    private static void hullOfALine() {
        CHECK.due("slanted", with(2, 2, 3, 3, 1, 1, 0, 0).hullText(), "3 1");
        CHECK.due("flat", with(2, 7, 3, 7, 1, 7).hullText(), "2 1");
        CHECK.due("upright", with(2, 7, 2, 9, 2, 8).hullText(), "0 1");
        CHECK.due("falling", with(0, 5, 5, 0).hullText(), "1 0");
        CHECK.due("count", with(0, 5, 5, 0, 1, 4).hullCount(), 2);
        CHECK.due("area", with(0, 5, 5, 0, 1, 4).hullArea(), 0);
    }

    private static void rounds() {
        CHECK.due("once to the left", with(3, -3, 3, 3, -3, 3, -3, -3).rounds(), 1);
        CHECK.due("once to the right", with(-3, -3, -3, 3, 3, 3, 3, -3).rounds(), -1);
        CHECK.due("twice", with(3, -3, 3, 3, -3, 3, -3, -3, 4, -4, 4, 4, -4, 4, -4, -4).rounds(), 2);
        CHECK.due("there and back", with(3, -3, 3, 3).rounds(), 0);
        CHECK.due("outside", with(3, 1, 5, 1, 4, 5).rounds(), 0);
        CHECK.due("places at the centre's y", with(3, 0, 0, 3, -3, 0, 0, -3).rounds(), 1);
        CHECK.due("the same to the right", with(3, 0, 0, -3, -3, 0, 0, 3).rounds(), -1);
        CHECK.due("touching the centre's y", with(3, 0, 5, 4, 4, 4).rounds(), 0);
    }

    private static void roundsOnALeg() {
        CHECK.due("between", with(3, 3, -3, -3, 9, 0).rounds(), -9);
        CHECK.due("on the last leg", with(3, 3, 9, 0, -3, -3).rounds(), -9);
        CHECK.due("at an end", with(3, 3, 9, 0, 0, 0).rounds(), -9);
        CHECK.due("on the line behind the end", with(3, 3, 6, 6, 5, 9).rounds(), 0);
        CHECK.due("flat leg", with(3, 0, -3, 0, 0, 5).rounds(), -9);
        CHECK.due("flat line", with(3, 0, 6, 0, 5, 5).rounds(), 0);
    }
}
