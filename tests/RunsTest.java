import java.util.Random;
import java.util.function.Supplier;

/** Long runs of calls, drawn from a fixed seed, each answer against that of the model. */
public final class RunsTest {
    private static final Check CHECK = new Check();
    private static final int RUNS = 6000;
    /** With what is asked between them and at the end, a run has just the 512 calls that the document promises. */
    private static final int ACTS = 160;
    private static final int ACTS_BETWEEN_ASKS = 8;
    private static final int ACTS_BETWEEN_ASKS_OF_THE_WHOLE = 32;

    private final Random random;
    private final int reach;
    private final Raywalk walk = new Raywalk();
    private final Model model = new Model();

    private RunsTest(int seed) {
        random = new Random(seed);
        // Small numbers meet rays, lines and the same spots often; great ones meet the limits.
        int[] reaches = {1, 2, 3, 6, 20, 140};
        reach = reaches[seed % reaches.length];
    }

    public static void main(String[] args) {
        for (int seed = 0; seed < RUNS; seed++) {
            RunsTest run = new RunsTest(seed);
            for (int acts = 1; acts <= ACTS; acts++) {
                run.act();
                if (acts % ACTS_BETWEEN_ASKS == 0) {
                    run.ask();
                }
                if (acts % ACTS_BETWEEN_ASKS_OF_THE_WHOLE == 0) {
                    run.askTheWhole();
                }
            }
            run.askTheWhole();
        }
        CHECK.end();
    }

    private int number() {
        return random.nextInt(2 * reach + 1) - reach;
    }

    private int cell() {
        return random.nextInt(40) == 0 ? random.nextInt(20) - 6 : random.nextInt(8);
    }

    private int place() {
        return random.nextInt(20) == 0 || model.places.isEmpty()
                ? random.nextInt(15) - 1 : random.nextInt(model.places.size());
    }

    private int upTo(int most) {
        return random.nextInt(30) == 0 ? random.nextInt(most + 3) - 1 : random.nextInt(most + 1);
    }

    private static Object told(Supplier<Object> call) {
        try {
            return call.get();
        } catch (IndexOutOfBoundsException | IllegalArgumentException thrown) {
            return thrown.getClass();
        }
    }

    private void due(String call, Supplier<Object> got, Supplier<Object> want) {
        CHECK.due(call, told(got), told(want));
    }

    private void act() {
        int a = cell();
        int b = cell();
        int c = cell();
        int p = place();
        int q = place();
        int x = number();
        int y = number();
        int n = upTo(5);
        boolean flag = random.nextBoolean();
        switch (random.nextInt(18)) {
            case 0, 1, 2 -> due("put", () -> walk.put(a, x, y, n > 4 ? 3 : n), () -> model.put(a, x, y, n > 4 ? 3 : n));
            case 3, 4 -> due("make", () -> walk.make(a, n), () -> model.make(a, n));
            case 5 -> due("stretch", () -> walk.stretch(a, y), () -> model.stretch(a, y));
            case 6, 7 -> due("addSteps", () -> walk.addSteps(a, b, c), () -> model.addSteps(a, b, c));
            case 8 -> due("takeStep", () -> walk.takeStep(a, p, q), () -> model.takeStep(a, p, q));
            case 9 -> due("sortSteps", () -> walk.sortSteps(flag), () -> model.sortSteps(flag));
            case 10, 11, 12 -> due("addPlace", () -> walk.addPlace(x, y), () -> model.addPlace(x, y));
            case 13 -> due("removePlace", () -> walk.removePlace(p), () -> model.removePlace(p));
            case 14 -> due("movePlace", () -> walk.movePlace(p, x, y), () -> model.movePlace(p, x, y));
            case 15 -> due("centre", () -> walk.centre(x, y), () -> model.centre(x, y));
            case 16 -> due("turnPlaces", walk::turnPlaces, model::turnPlaces);
            default -> due("mirrorPlaces", walk::mirrorPlaces, model::mirrorPlaces);
        }
    }

    private void ask() {
        int a = cell();
        int b = cell();
        int n = upTo(7);
        int digits = upTo(29);
        boolean flag = random.nextBoolean();
        due("signs", () -> walk.signs(a), () -> model.signs(a));
        due("upper", () -> walk.upper(a), () -> model.upper(a));
        due("lower", () -> walk.lower(a), () -> model.lower(a));
        due("grade", () -> walk.grade(a, digits), () -> model.grade(a, digits));
        due("order", () -> walk.order(a, b, n), () -> model.order(a, b, n));
        due("like", () -> walk.like(a, b), () -> model.like(a, b));
        due("same", () -> walk.same(a, b, n), () -> model.same(a, b, n));
        due("side", () -> walk.side(a, b), () -> model.side(a, b));
        due("eighth", () -> walk.eighth(a), () -> model.eighth(a));
        due("rule", () -> walk.rule(a, n), () -> model.rule(a, n));
        due("find", () -> walk.find(a, flag), () -> model.find(a, flag));
        int p = place();
        int q = place();
        int r = place();
        due("bearing", () -> walk.bearing(p, q, digits), () -> model.bearing(p, q, digits));
        due("bearingOrder", () -> walk.bearingOrder(p, q, r), () -> model.bearingOrder(p, q, r));
        due("left", () -> walk.left(p, q, r), () -> model.left(p, q, r));
    }

    private void askTheWhole() {
        CHECK.due("knock", walk.knock(), ++model.house[3]);
        CHECK.due("places", walk.places(), model.places.size());
        CHECK.due("roundText", walk.roundText(), Model.text(model.round()));
        CHECK.due("roundCount", walk.roundCount(), model.round().size());
        CHECK.due("isStar", walk.isStar(), model.isStar());
        CHECK.due("starArea", walk.starArea(), model.starArea());
        CHECK.due("hullText", walk.hullText(), Model.text(model.hull()));
        CHECK.due("hullCount", walk.hullCount(), model.hull().size());
        CHECK.due("hullArea", walk.hullArea(), model.hullArea());
        CHECK.due("rounds", walk.rounds(), model.rounds());
        CHECK.due("isSound", walk.isSound(), true);
        CHECK.due("digest", walk.digest(), model.digest());
    }
}
