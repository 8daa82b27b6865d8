/** Promises 41 to 44: the counts, knocking, soundness and the checksum. */
public final class WholeTest {
    private static final Check CHECK = new Check();

    public static void main(String[] args) {
        house();
        knock();
        isSound();
        digestOfANewObject();
        digestTellsChangesApart();
        CHECK.end();
    }

    private static void house() {
        Raywalk walk = new Raywalk();
        walk.put(0, 1, 0, 0);
        walk.sortSteps(false);
        walk.stretch(0, 127);
        walk.stretch(0, 127);
        walk.addPlace(1, 1);
        walk.addPlace(1, 1);
        walk.movePlace(0, 1, 1);
        walk.centre(0, 0);
        walk.knock();
        walk.side(0, 1);
        CHECK.noCell("put(9, ..)", () -> walk.put(9, 0, 0, 0));
        CHECK.due("acts on cells", walk.house(0), 3);
        CHECK.due("acts on places and the centre", walk.house(1), 3);
        CHECK.due("refusals", walk.house(2), 2);
        CHECK.due("knocks", walk.house(3), 1);
        CHECK.noArgument("house(4)", () -> walk.house(4));
        CHECK.noArgument("house(-1)", () -> walk.house(-1));
    }

    private static void knock() {
        Raywalk walk = new Raywalk();
        for (int times = 1; times <= 3; times++) {
            CHECK.due("knock", walk.knock(), times);
        }
        CHECK.due("no act on cells", walk.house(0), 0);
        CHECK.due("no act on places", walk.house(1), 0);
        CHECK.due("of another object", new Raywalk().knock(), 1);
    }

    private static void isSound() {
        Raywalk walk = new Raywalk();
        CHECK.due("new", walk.isSound(), true);
        int[][] rim = {{-1, 0, 2}, {-1, 0, 0}, {0, 0, 1}, {0, 0, 3}, {1, 0, 2}, {127, 126, 0}, {126, 125, 0}, {-126, -125, 0}};
        for (int cell = 0; cell < 8; cell++) {
            walk.put(cell, rim[cell][0], rim[cell][1], rim[cell][2]);
        }
        CHECK.due("at the rims", walk.isSound(), true);
        walk.addPlace(5, 5);
        walk.addPlace(-5, 5);
        walk.addPlace(0, -5);
        CHECK.due("with a star", walk.isStar() && walk.isSound(), true);
    }

    private static void digestOfANewObject() {
        long want = 7682;
        for (int cell = 0; cell < 8; cell++) {
            int[] told = {1, 0, 0, 0, 0, 0, 4, 0};
            for (int value : told) {
                want = want * 31 + value;
            }
        }
        for (int pair = 0; pair < 28; pair++) {
            int[] told = {0, 1, 0};
            for (int value : told) {
                want = want * 31 + value;
            }
        }
        // places, centre x and y, round count, star, star area, hull count, hull area, rounds, house of 0 to 3, sound
        int[] told = {0, 0, 0, 0, 0, 0, 0, 0, 0, 0, 0, 0, 0, 1};
        for (int value : told) {
            want = want * 31 + value;
        }
        CHECK.due("digest", new Raywalk().digest(), want);
        Raywalk walk = new Raywalk();
        CHECK.due("asked twice", walk.digest() == walk.digest(), true);
    }

    private static void digestTellsChangesApart() {
        Raywalk walk = new Raywalk();
        long first = walk.digest();
        walk.knock();
        CHECK.due("a knock", walk.digest() == first, false);
        Raywalk other = new Raywalk();
        other.put(0, 1, 0, 2);
        CHECK.due("the other zero", other.digest() == first, false);
    }
}
