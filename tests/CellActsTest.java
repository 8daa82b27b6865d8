/** Promises 1 to 7: a new object, and the acts on cells. */
public final class CellActsTest {
    private static final Check CHECK = new Check();

    public static void main(String[] args) {
        aNewObject();
        put();
        putRefusesWrongArguments();
        makeByEachRule();
        makeOfNullSteps();
        makeRefusesWrongArguments();
        stretch();
        addSteps();
        addStepsOfZeros();
        takeStep();
        sortSteps();
        sortKeepsSameOnesInOrder();
        CHECK.end();
    }

    private static void dueStep(String what, Raywalk walk, int cell, int across, int up, int signs) {
        CHECK.due(what + " across", walk.across(cell), across);
        CHECK.due(what + " up", walk.up(cell), up);
        CHECK.due(what + " signs", walk.signs(cell), signs);
    }

    private static void aNewObject() {
        Raywalk walk = new Raywalk();
        for (int cell = 0; cell < 8; cell++) {
            dueStep("new cell " + cell, walk, cell, 1, 0, 0);
        }
        CHECK.due("new places", walk.places(), 0);
        CHECK.due("new centre x", walk.centreAt(false), 0);
        CHECK.due("new centre y", walk.centreAt(true), 0);
        for (int what = 0; what < 4; what++) {
            CHECK.due("new house " + what, walk.house(what), 0);
        }
    }

    private static void put() {
        Raywalk walk = new Raywalk();
        CHECK.due("to the left", walk.put(0, 3, 4, 0), 1);
        dueStep("(3, 4)", walk, 0, 3, 4, 0);
        CHECK.due("same ray", walk.put(0, 6, 8, 3), 0);
        dueStep("(6, 8), signs of no zeros", walk, 0, 6, 8, 0);
        CHECK.due("back", walk.put(0, 4, 3, 0), -1);
        CHECK.due("most", walk.put(7, -127, 127, 0), 1);
        dueStep("(-127, 127)", walk, 7, -127, 127, 1);
        CHECK.due("least", walk.put(7, 127, -127, 0), -1);
        dueStep("(127, -127)", walk, 7, 127, -127, 2);
        for (int signs = 0; signs < 4; signs++) {
            walk.put(1, 0, 0, signs);
            dueStep("null of signs " + signs, walk, 1, 0, 0, signs);
        }
        walk.put(2, 0, -5, 1);
        dueStep("across zero with sign 1", walk, 2, 0, -5, 3);
        walk.put(2, -5, 0, 2);
        dueStep("up zero with sign 1", walk, 2, -5, 0, 3);
        walk.put(2, -5, 0, 1);
        dueStep("up zero, only across asked", walk, 2, -5, 0, 1);
        CHECK.due("0 to minus 0", new Raywalk().put(0, 1, 0, 2), -1);
        CHECK.due("0 to half turn", new Raywalk().put(0, -1, 0, 0), 1);
        CHECK.due("0 to minus half turn", new Raywalk().put(0, -1, 0, 2), -1);
    }

    private static void putRefusesWrongArguments() {
        Raywalk walk = new Raywalk();
        CHECK.noCell("put(-1, ..)", () -> walk.put(-1, 1, 1, 0));
        CHECK.noCell("put(8, ..)", () -> walk.put(8, 128, 1, 4));
        CHECK.noArgument("across 128", () -> walk.put(0, 128, 1, 0));
        CHECK.noArgument("across -128", () -> walk.put(0, -128, 1, 0));
        CHECK.noArgument("up 128", () -> walk.put(0, 1, 128, 0));
        CHECK.noArgument("up -128", () -> walk.put(0, 1, -128, 0));
        CHECK.noArgument("up least int", () -> walk.put(0, 1, Integer.MIN_VALUE, 0));
        CHECK.noArgument("signs 4", () -> walk.put(0, 1, 1, 4));
        CHECK.noArgument("signs -1", () -> walk.put(0, 1, 1, -1));
        dueStep("after wrong arguments", walk, 0, 1, 0, 0);
        CHECK.due("no act", walk.house(0), 0);
        CHECK.due("no refusal", walk.house(2), 0);
    }

    private static void makeByEachRule() {
        int[][] made = {{3, -4, 2, -1}, {-3, 4, 1, 1}, {-4, 3, 1, 1}, {4, -3, 2, -1}, {4, 3, 0, -1}, {-3, -4, 3, -1}};
        for (int rule = 0; rule < 6; rule++) {
            Raywalk walk = new Raywalk();
            walk.put(3, 3, 4, 0);
            CHECK.due("move of rule " + rule, walk.make(3, rule), made[rule][3]);
            dueStep("rule " + rule, walk, 3, made[rule][0], made[rule][1], made[rule][2]);
            CHECK.due("acts of rule " + rule, walk.house(0), 2);
        }
        Raywalk walk = new Raywalk();
        walk.put(0, -5, 0, 0);
        CHECK.due("rule 0 of a zero", walk.make(0, 0), -1);
        dueStep("rule 0 of a zero", walk, 0, -5, 0, 3);
        walk.put(0, 0, 5, 0);
        CHECK.due("rule 1 of a zero", walk.make(0, 1), 0);
        dueStep("rule 1 of a zero", walk, 0, 0, 5, 1);
    }

    private static void makeOfNullSteps() {
        // Of (0, 0) with both SIGNS 0: which SIGNS each rule makes, then of that with the across SIGN 1.
        int[] ofNone = {2, 1, 1, 2, 0, 3};
        int[] ofAcross = {3, 0, 3, 0, 2, 2};
        for (int rule = 0; rule < 6; rule++) {
            Raywalk walk = new Raywalk();
            walk.put(0, 0, 0, 0);
            walk.make(0, rule);
            dueStep("null by rule " + rule, walk, 0, 0, 0, ofNone[rule]);
            walk.put(0, 0, 0, 1);
            walk.make(0, rule);
            dueStep("null with across sign by rule " + rule, walk, 0, 0, 0, ofAcross[rule]);
        }
    }

    private static void makeRefusesWrongArguments() {
        Raywalk walk = new Raywalk();
        CHECK.noCell("make(8, 9)", () -> walk.make(8, 9));
        CHECK.noCell("make(-1, 0)", () -> walk.make(-1, 0));
        CHECK.noArgument("make(0, 6)", () -> walk.make(0, 6));
        CHECK.noArgument("make(0, -1)", () -> walk.make(0, -1));
        CHECK.due("no act", walk.house(0), 0);
    }

    private static void stretch() {
        Raywalk walk = new Raywalk();
        walk.put(0, -3, 4, 0);
        CHECK.due("by 31", walk.stretch(0, 31), 0);
        dueStep("by 31", walk, 0, -93, 124, 1);
        CHECK.due("by 1", walk.stretch(0, 1), 0);
        CHECK.due("up too great", walk.stretch(0, 2), -9);
        dueStep("unchanged", walk, 0, -93, 124, 1);
        walk.put(1, -64, 1, 0);
        CHECK.due("across too small", walk.stretch(1, 2), -9);
        walk.put(1, 1, 0, 2);
        CHECK.due("by 127", walk.stretch(1, 127), 0);
        dueStep("zero stays", walk, 1, 127, 0, 2);
        walk.put(1, 0, 0, 3);
        CHECK.due("null by 127", walk.stretch(1, 127), 0);
        dueStep("null stays", walk, 1, 0, 0, 3);
        CHECK.due("acts", walk.house(0), 8);
        CHECK.due("refusals", walk.house(2), 2);
        CHECK.noCell("stretch(8, 0)", () -> walk.stretch(8, 0));
        CHECK.noCell("stretch(-1, 1)", () -> walk.stretch(-1, 1));
        CHECK.noArgument("by 0", () -> walk.stretch(0, 0));
        CHECK.noArgument("by 128", () -> walk.stretch(0, 128));
        CHECK.due("refusals after throws", walk.house(2), 2);
    }

    private static void addSteps() {
        Raywalk walk = new Raywalk();
        walk.put(0, 100, -20, 0);
        walk.put(1, 27, -107, 0);
        CHECK.due("just a coordinate", walk.addSteps(0, 1, 2), -1);
        dueStep("sum", walk, 2, 127, -127, 2);
        CHECK.due("too great", walk.addSteps(2, 0, 2), -9);
        dueStep("unchanged", walk, 2, 127, -127, 2);
        walk.put(3, 0, -1, 0);
        CHECK.due("up too small", walk.addSteps(2, 3, 4), -9);
        dueStep("unchanged", walk, 4, 1, 0, 0);
        CHECK.due("into itself", walk.addSteps(3, 3, 3), 0);
        dueStep("doubled", walk, 3, 0, -2, 2);
        CHECK.due("refusals", walk.house(2), 2);
        CHECK.noCell("one 8", () -> walk.addSteps(8, 0, 0));
        CHECK.noCell("other -1", () -> walk.addSteps(0, -1, 0));
        CHECK.noCell("into 8", () -> walk.addSteps(0, 0, 8));
    }

    private static void addStepsOfZeros() {
        for (int one = 0; one < 4; one++) {
            for (int other = 0; other < 4; other++) {
                Raywalk walk = new Raywalk();
                walk.put(0, 0, 0, one);
                walk.put(1, 0, 0, other);
                walk.addSteps(0, 1, 2);
                dueStep("zeros " + one + " and " + other, walk, 2, 0, 0, one & other);
            }
        }
        Raywalk walk = new Raywalk();
        walk.put(0, -7, 7, 0);
        walk.put(1, 7, -7, 0);
        walk.addSteps(0, 1, 2);
        dueStep("opposites", walk, 2, 0, 0, 0);
    }

    private static void takeStep() {
        Raywalk walk = new Raywalk();
        walk.addPlace(-64, 63);
        walk.addPlace(63, -64);
        walk.addPlace(63, 63);
        CHECK.due("down right", walk.takeStep(0, 0, 1), -1);
        dueStep("down right", walk, 0, 127, -127, 2);
        CHECK.due("up left", walk.takeStep(0, 1, 0), 1);
        dueStep("up left", walk, 0, -127, 127, 1);
        walk.put(0, 0, -1, 3);
        CHECK.due("upwards", walk.takeStep(0, 1, 2), 1);
        dueStep("upwards", walk, 0, 0, 127, 0);
        walk.put(0, 0, 0, 3);
        CHECK.due("to itself", walk.takeStep(0, 2, 2), 1);
        dueStep("to itself", walk, 0, 0, 0, 0);
        CHECK.due("acts on cells", walk.house(0), 6);
        CHECK.due("acts on places", walk.house(1), 3);
        CHECK.noCell("cell 8", () -> walk.takeStep(8, 0, 0));
        CHECK.noCell("from 3", () -> walk.takeStep(0, 3, 0));
        CHECK.noCell("to -1", () -> walk.takeStep(0, 0, -1));
        CHECK.noCell("no places", () -> new Raywalk().takeStep(0, 0, 0));
    }

    private static void sortSteps() {
        // Each in its order: across, up, signs of zeros.
        int[][] ordered = {{-1, 0, 2}, {-1, -1, 0}, {0, -1, 0}, {1, 0, 2}, {1, 0, 0}, {1, 1, 0}, {0, 1, 0}, {-1, 0, 0}};
        int[] places = {3, 7, 0, 5, 1, 6, 2, 4};
        Raywalk walk = new Raywalk();
        for (int at = 0; at < 8; at++) {
            walk.put(places[at], ordered[at][0], ordered[at][1], ordered[at][2]);
        }
        CHECK.due("sorted up", walk.sortSteps(false), 8);
        for (int cell = 0; cell < 8; cell++) {
            CHECK.due("up across " + cell, walk.across(cell), ordered[cell][0]);
            CHECK.due("up up " + cell, walk.up(cell), ordered[cell][1]);
            CHECK.due("up up's sign " + cell, walk.signs(cell) >> 1, ordered[cell][1] < 0 || ordered[cell][2] == 2 ? 1 : 0);
        }
        CHECK.due("sorted already", walk.sortSteps(false), 0);
        CHECK.due("sorted down", walk.sortSteps(true), 8);
        for (int cell = 0; cell < 8; cell++) {
            CHECK.due("down across " + cell, walk.across(7 - cell), ordered[cell][0]);
            CHECK.due("down up " + cell, walk.up(7 - cell), ordered[cell][1]);
        }
        CHECK.due("acts", walk.house(0), 11);
    }

    private static void sortKeepsSameOnesInOrder() {
        Raywalk walk = new Raywalk();
        for (int cell = 0; cell < 8; cell++) {
            walk.put(cell, cell + 1, cell % 2 == 0 ? cell + 1 : 0, 0);
        }
        CHECK.due("two rays", walk.sortSteps(false), 8);
        int[] up = {2, 4, 6, 8, 1, 3, 5, 7};
        for (int cell = 0; cell < 8; cell++) {
            CHECK.due("stable " + cell, walk.across(cell), up[cell]);
        }
        CHECK.due("two rays down", walk.sortSteps(true), 8);
        int[] down = {1, 3, 5, 7, 2, 4, 6, 8};
        for (int cell = 0; cell < 8; cell++) {
            CHECK.due("stable down " + cell, walk.across(cell), down[cell]);
        }
        Raywalk zeros = new Raywalk();
        zeros.put(0, 0, 1, 0);
        zeros.put(1, 0, 1, 1);
        zeros.put(2, 0, -1, 0);
        CHECK.due("zeros of two signs", zeros.sortSteps(false), 5);
        CHECK.due("first zero", zeros.signs(6), 0);
        CHECK.due("second zero", zeros.signs(7), 1);
        Raywalk twins = new Raywalk();
        twins.put(0, 0, 1, 1);
        twins.put(1, 0, 1, 0);
        twins.put(2, 5, 5, 0);
        for (int cell = 3; cell < 8; cell++) {
            twins.put(cell, -1, 1, 0);
        }
        CHECK.due("only the other zero", twins.sortSteps(false), 3);
    }
}
