/** Every row of up to four places in a field of three by three, about each centre in it, against the model. */
public final class SmallFieldTest {
    private static final Check CHECK = new Check();
    private static final int SIDE = 3;
    private static final int SPOTS = SIDE * SIDE;
    private static final int MOST = 4;

    private final int[] row = new int[MOST];

    public static void main(String[] args) {
        new SmallFieldTest().rowsFrom(0);
        CHECK.end();
    }

    /** Each longer row than the first places that stand. */
    private void rowsFrom(int count) {
        for (int centre = 0; centre < SPOTS; centre++) {
            compare(count, centre);
        }
        for (int spot = 0; count < MOST && spot < SPOTS; spot++) {
            if (!isTaken(spot, count)) {
                row[count] = spot;
                rowsFrom(count + 1);
            }
        }
    }

    private boolean isTaken(int spot, int count) {
        for (int number = 0; number < count; number++) {
            if (row[number] == spot) {
                return true;
            }
        }
        return false;
    }

    private void compare(int count, int centre) {
        Raywalk walk = new Raywalk();
        Model model = new Model();
        StringBuilder told = new StringBuilder(" of");
        for (int number = 0; number < count; number++) {
            int x = row[number] % SIDE - 1;
            int y = row[number] / SIDE - 1;
            told.append(" (").append(x).append(", ").append(y).append(')');
            walk.addPlace(x, y);
            model.addPlace(x, y);
        }
        int x = centre % SIDE - 1;
        int y = centre / SIDE - 1;
        told.append(" about (").append(x).append(", ").append(y).append(')');
        CHECK.due("centre" + told, walk.centre(x, y), model.centre(x, y));
        ask(walk, model, told.toString());
        CHECK.due("turnPlaces" + told, walk.turnPlaces(), model.turnPlaces());
        ask(walk, model, told + " turned");
        CHECK.due("mirrorPlaces" + told, walk.mirrorPlaces(), model.mirrorPlaces());
        ask(walk, model, told + " turned and mirrored");
        if (count > 0) {
            CHECK.due("removePlace" + told, walk.removePlace(0), model.removePlace(0));
            ask(walk, model, told + " turned and mirrored, without the first");
        }
    }

    private static void ask(Raywalk walk, Model model, String told) {
        CHECK.due("roundText" + told, walk.roundText(), Model.text(model.round()));
        CHECK.due("isStar" + told, walk.isStar(), model.isStar());
        CHECK.due("starArea" + told, walk.starArea(), model.starArea());
        CHECK.due("hullText" + told, walk.hullText(), Model.text(model.hull()));
        CHECK.due("hullArea" + told, walk.hullArea(), model.hullArea());
        CHECK.due("rounds" + told, walk.rounds(), model.rounds());
        CHECK.due("isSound" + told, walk.isSound(), true);
    }
}
