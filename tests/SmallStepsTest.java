/** Each two of the small steps and of those at the rims, with all their ZEROS, against the model. */
public final class SmallStepsTest {
    private static final Check CHECK = new Check();
    private static final double[] COORDINATES = {-127, -2, -1, -0.0, 0.0, 1, 2, 127};

    private final Raywalk walk = new Raywalk();
    private final Model model = new Model();
    private final String told;

    private SmallStepsTest(double[] one, double[] other) {
        put(0, one);
        put(1, other);
        told = " of " + Told.stepOf(walk, 0) + " and " + Told.stepOf(walk, 1);
    }

    public static void main(String[] args) {
        for (double across : COORDINATES) {
            for (double up : COORDINATES) {
                double[] one = {across, up};
                for (double otherAcross : COORDINATES) {
                    for (double otherUp : COORDINATES) {
                        SmallStepsTest pair = new SmallStepsTest(one, new double[] {otherAcross, otherUp});
                        pair.compare(0, 1);
                        pair.compare(1, 0);
                        pair.sum();
                        pair.sort();
                    }
                }
            }
        }
        CHECK.end();
    }

    private void put(int cell, double[] step) {
        int signs = (Math.copySign(1, step[0]) < 0 ? 1 : 0) + (Math.copySign(1, step[1]) < 0 ? 2 : 0);
        CHECK.due("put to " + cell, walk.put(cell, (int) step[0], (int) step[1], signs),
                model.put(cell, (int) step[0], (int) step[1], signs));
    }

    private void compare(int one, int other) {
        for (int how = 0; how < 3; how++) {
            CHECK.due("order by " + how + told, walk.order(one, other, how), model.order(one, other, how));
        }
        for (int how = 0; how < 2; how++) {
            CHECK.due("same by " + how + told, walk.same(one, other, how), model.same(one, other, how));
        }
        CHECK.due("like" + told, walk.like(one, other), model.like(one, other));
        CHECK.due("side" + told, walk.side(one, other), model.side(one, other));
        CHECK.due("find" + told, walk.find(one, false), model.find(one, false));
        CHECK.due("find from the end" + told, walk.find(one, true), model.find(one, true));
    }

    private void sum() {
        CHECK.due("move of the sum" + told, walk.addSteps(0, 1, 6), model.addSteps(0, 1, 6));
        dueStep("sum", 6);
        CHECK.due("move of the sum into the first" + told, walk.addSteps(0, 1, 0), model.addSteps(0, 1, 0));
        dueStep("sum into the first", 0);
        CHECK.due("refusals" + told, walk.house(2), model.house[2]);
    }

    private void sort() {
        for (boolean isDown : new boolean[] {true, false}) {
            CHECK.due("sortSteps " + isDown + told, walk.sortSteps(isDown), model.sortSteps(isDown));
            for (int cell = 0; cell < 8; cell++) {
                dueStep("sorted " + isDown, cell);
            }
        }
        CHECK.due("digest" + told, walk.digest(), model.digest());
    }

    private void dueStep(String what, int cell) {
        CHECK.due(what + told + " in cell " + cell, Told.stepOf(walk, cell),
                Told.step((int) model.across[cell], (int) model.up[cell], model.signs(cell)));
    }
}
