/** Promises 21 to 26: the acts on places and the centre. */
public final class PlaceActsTest {
    private static final Check CHECK = new Check();

    public static void main(String[] args) {
        addPlace();
        removePlace();
        movePlace();
        centre();
        turnPlaces();
        mirrorPlaces();
        turnedAndMirroredAtTheRims();
        roundAndHullFollowEachAct();
        wrongSpots();
        CHECK.end();
    }

    private static void duePlace(String what, Raywalk walk, int number, int x, int y) {
        CHECK.due(what + " x", walk.place(number, false), x);
        CHECK.due(what + " y", walk.place(number, true), y);
    }

    private static void addPlace() {
        Raywalk walk = new Raywalk();
        CHECK.due("first", walk.addPlace(-64, 63), 0);
        CHECK.due("at the same spot", walk.addPlace(-64, 63), -9);
        CHECK.due("same x", walk.addPlace(-64, -64), 1);
        CHECK.due("same y", walk.addPlace(63, 63), 2);
        CHECK.due("at the centre", walk.addPlace(0, 0), 3);
        for (int number = 4; number < 12; number++) {
            CHECK.due("place " + number, walk.addPlace(number, -9), number);
        }
        CHECK.due("a thirteenth", walk.addPlace(1, 1), -9);
        CHECK.due("places", walk.places(), 12);
        duePlace("first", walk, 0, -64, 63);
        duePlace("last", walk, 11, 11, -9);
        CHECK.due("acts", walk.house(1), 12);
        CHECK.due("refusals", walk.house(2), 2);
        CHECK.due("acts on cells", walk.house(0), 0);
    }

    private static void removePlace() {
        Raywalk walk = new Raywalk();
        for (int number = 0; number < 12; number++) {
            walk.addPlace(number, -number);
        }
        CHECK.due("remove the middle", walk.removePlace(5), 11);
        duePlace("before it", walk, 4, 4, -4);
        duePlace("behind it", walk, 5, 6, -6);
        duePlace("last", walk, 10, 11, -11);
        CHECK.due("centre stays", walk.centreAt(false), 0);
        CHECK.due("remove the last", walk.removePlace(10), 10);
        CHECK.due("remove the first", walk.removePlace(0), 9);
        duePlace("new first", walk, 0, 1, -1);
        CHECK.due("room again", walk.addPlace(5, -5), 9);
        CHECK.noCell("remove 10", () -> walk.removePlace(10));
        CHECK.noCell("remove -1", () -> walk.removePlace(-1));
        CHECK.noCell("remove of none", () -> new Raywalk().removePlace(0));
        CHECK.due("acts", walk.house(1), 16);
        CHECK.due("hull follows", walk.hullText(), "8 0");
    }

    private static void movePlace() {
        Raywalk walk = new Raywalk();
        walk.addPlace(1, 1);
        walk.addPlace(2, 2);
        CHECK.due("elsewhere", walk.movePlace(0, -64, 63), 1);
        duePlace("moved", walk, 0, -64, 63);
        CHECK.due("where it is", walk.movePlace(0, -64, 63), 0);
        CHECK.due("onto another", walk.movePlace(0, 2, 2), -9);
        duePlace("unmoved", walk, 0, -64, 63);
        CHECK.due("x alone", walk.movePlace(1, 2, 3), 1);
        CHECK.due("y alone", walk.movePlace(1, 3, 3), 1);
        CHECK.due("round follows", walk.roundText(), "1 0");
        CHECK.due("acts", walk.house(1), 6);
        CHECK.due("refusals", walk.house(2), 1);
        CHECK.noCell("place 2", () -> walk.movePlace(2, 64, 0));
        CHECK.noCell("place -1", () -> walk.movePlace(-1, 0, 0));
        CHECK.noArgument("x 64", () -> walk.movePlace(0, 64, 0));
        CHECK.noArgument("y -65", () -> walk.movePlace(0, 0, -65));
    }

    private static void centre() {
        Raywalk walk = new Raywalk();
        walk.addPlace(3, 4);
        CHECK.due("where it is", walk.centre(0, 0), 0);
        CHECK.due("onto a place", walk.centre(3, 4), 1);
        CHECK.due("x", walk.centreAt(false), 3);
        CHECK.due("y", walk.centreAt(true), 4);
        CHECK.due("round follows", walk.roundCount(), 0);
        CHECK.due("edge", walk.centre(-64, 63), 1);
        CHECK.due("acts", walk.house(1), 4);
    }

    private static void turnPlaces() {
        Raywalk walk = new Raywalk();
        CHECK.due("of none", walk.turnPlaces(), 0);
        CHECK.due("centre x", walk.centreAt(false), -1);
        CHECK.due("centre y", walk.centreAt(true), 0);
        walk.addPlace(-64, 63);
        walk.addPlace(10, 20);
        walk.addPlace(63, 63);
        CHECK.due("area", walk.turnPlaces(), 127 * 43);
        duePlace("corner", walk, 0, -64, -64);
        duePlace("within", walk, 1, -21, 10);
        duePlace("other corner", walk, 2, -64, 63);
        CHECK.due("centre x again", walk.centreAt(false), -1);
        CHECK.due("centre y again", walk.centreAt(true), -1);
        walk.turnPlaces();
        walk.turnPlaces();
        walk.turnPlaces();
        duePlace("all the way round", walk, 1, 10, 20);
        CHECK.due("acts", walk.house(1), 8);
    }

    private static void mirrorPlaces() {
        Raywalk walk = new Raywalk();
        walk.addPlace(-64, 5);
        walk.addPlace(63, 6);
        walk.addPlace(0, 7);
        walk.centre(4, -4);
        CHECK.due("area", walk.mirrorPlaces(), Math.abs(127 * 2 - 64));
        duePlace("left edge", walk, 0, 63, 5);
        duePlace("right edge", walk, 1, -64, 6);
        duePlace("0", walk, 2, -1, 7);
        CHECK.due("centre x", walk.centreAt(false), -5);
        CHECK.due("centre y", walk.centreAt(true), -4);
        CHECK.due("hull follows", walk.hullText(), "0 2 1");
        CHECK.due("acts", walk.house(1), 5);
    }

    /** turnPlaces(): "the new x is -1 less the old y, the new y is the old x"; mirrorPlaces(): "the new x is -1 less the old x" */
    private static void turnedAndMirroredAtTheRims() {
        int[] rims = {-64, -63, -1, 0, 62, 63};
        for (int x : rims) {
            for (int y : rims) {
                Raywalk walk = new Raywalk();
                walk.addPlace(y, x);
                walk.addPlace(x, -1 - y);
                walk.centre(x, y);
                walk.turnPlaces();
                duePlace("turned", walk, 0, -1 - x, y);
                CHECK.due("turned centre x", walk.centreAt(false), -1 - y);
                CHECK.due("turned centre y", walk.centreAt(true), x);
                walk.mirrorPlaces();
                duePlace("turned and mirrored", walk, 0, x, y);
                CHECK.due("mirrored centre x", walk.centreAt(false), y);
                CHECK.due("mirrored centre y", walk.centreAt(true), x);
                if (walk.places() > 1) {
                    duePlace("the second turned and mirrored", walk, 1, -1 - y, x);
                }
            }
        }
    }

    private static void dueRows(String what, Raywalk walk, String round, String hull) {
        CHECK.due("round after " + what, walk.roundText(), round);
        CHECK.due("hull after " + what, walk.hullText(), hull);
    }

    /** After each act the rows are those of the new field, without another act between. */
    private static void roundAndHullFollowEachAct() {
        Raywalk walk = new Raywalk();
        walk.addPlace(4, 1);
        dueRows("a first place", walk, "0", "0");
        walk.addPlace(1, -5);
        dueRows("a second place", walk, "1 0", "1 0");
        walk.addPlace(0, 9);
        dueRows("a third place", walk, "1 0 2", "1 0 2");
        walk.addPlace(-6, 3);
        dueRows("a fourth place", walk, "1 0 2 3", "1 0 2 3");
        walk.turnPlaces();
        dueRows("a turn", walk, "3 1 0 2", "3 1 0 2");
        walk.mirrorPlaces();
        dueRows("a mirroring", walk, "3 2 0 1", "3 2 0 1");
        walk.centre(1, 5);
        dueRows("another centre", walk, "1 0 3 2", "3 2 0 1");
        walk.movePlace(3, -60, 0);
        dueRows("a move", walk, "3 1 0 2", "3 2 0");
        walk.removePlace(2);
        dueRows("a removal", walk, "2 1 0", "2 1 0");
        walk.removePlace(2);
        dueRows("another removal", walk, "1 0", "1 0");
    }

    private static void wrongSpots() {
        Raywalk walk = new Raywalk();
        CHECK.noArgument("addPlace x 64", () -> walk.addPlace(64, 0));
        CHECK.noArgument("addPlace x -65", () -> walk.addPlace(-65, 0));
        CHECK.noArgument("addPlace y 64", () -> walk.addPlace(0, 64));
        CHECK.noArgument("addPlace y -65", () -> walk.addPlace(0, -65));
        CHECK.noArgument("centre x 64", () -> walk.centre(64, 0));
        CHECK.noArgument("centre x -65", () -> walk.centre(-65, 0));
        CHECK.noArgument("centre y 64", () -> walk.centre(0, 64));
        CHECK.noArgument("centre y -65", () -> walk.centre(0, -65));
        CHECK.due("acts", walk.house(1), 0);
        CHECK.due("refusals", walk.house(2), 0);
    }
}
