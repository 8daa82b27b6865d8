import java.util.function.Consumer;
import java.util.function.Supplier;
import java.util.function.ToIntFunction;

/**
 * Section 8 (Acts): which calls throw what, which exception goes ahead, what tells -9, and that nothing is changed then.
 * Each refused call has a busy object of its own, all of whose state is told before and after.
 */
public final class ActsTest {
    private static final Check CHECK = new Check();
    private static final Class<?> INDEX = IndexOutOfBoundsException.class;
    private static final Class<?> ARGUMENT = IllegalArgumentException.class;
    private static final int BUSY_PLACES = 5;
    private static final int WRONG = 1000;

    /** A call with one number in question. */
    private interface Ranged {
        void call(Raywalk walk, int number);
    }

    public static void main(String[] args) {
        cellsOfActs();
        cellsOfAsks();
        argumentsOfCells();
        placeNumbers();
        placeNumbersOfFewAndMany();
        argumentsOfPlaces();
        house();
        indexIsNamedFirst();
        indexIsNamedFirstOfPlaces();
        exceptionsGoAheadOfMinus9();
        actsThatCannotBeDone();
        actsThatCannotBeDoneOnAFullField();
        asksWithNothingToTell();
        asksChangeNothing();
        actsThatLeaveAllAsItWasAreCounted();
        eachActIsCountedOnItsSide();
        CHECK.end();
    }

    /** Cells 0 to 7 all differ, cell 5 is NULL; of five places, number 3 is at the CENTRE. */
    private static Raywalk busy() {
        Raywalk walk = new Raywalk();
        int[][] steps = {{100, -20, 0}, {64, 3, 0}, {-3, -4, 0}, {0, 7, 1}, {-127, 127, 0}, {0, 0, 3}, {1, 0, 2}, {0, -64, 0}};
        for (int cell = 0; cell < 8; cell++) {
            walk.put(cell, steps[cell][0], steps[cell][1], steps[cell][2]);
        }
        int[] spots = {-64, 63, 5, 5, -9, -9, 7, -8, 63, -64};
        for (int at = 0; at < spots.length; at += 2) {
            walk.addPlace(spots[at], spots[at + 1]);
        }
        walk.centre(7, -8);
        walk.addPlace(5, 5);
        walk.knock();
        walk.knock();
        return walk;
    }

    private static Raywalk withPlaces(int count) {
        Raywalk walk = new Raywalk();
        for (int number = 0; number < count; number++) {
            walk.addPlace(number, -number * number % 11);
        }
        return walk;
    }

    /** "A method that throws an exception changes nothing." */
    private static void refused(String call, Class<?> want, Supplier<Raywalk> maker, Consumer<Raywalk> run) {
        Raywalk walk = maker.get();
        String before = Told.stateOf(walk);
        int refusals = walk.house(2);
        long digest = walk.digest();
        CHECK.throwing(call, want, () -> run.accept(walk));
        CHECK.due("state after " + call, Told.stateOf(walk), before);
        CHECK.due("refusals after " + call, walk.house(2), refusals);
        CHECK.due("digest after " + call, walk.digest(), digest);
    }

    private static void let(String call, Raywalk walk, Consumer<Raywalk> run) {
        CHECK.due(call + " throwing", Check.thrownBy(() -> run.accept(walk)), "nothing");
    }

    private static void range(String call, int least, int most, Class<?> want, Supplier<Raywalk> maker, Ranged ranged) {
        for (int wrong : new int[] {least - 1, most + 1, least - WRONG, most + WRONG, Integer.MIN_VALUE, Integer.MAX_VALUE}) {
            refused(call + " of " + wrong, want, maker, walk -> ranged.call(walk, wrong));
        }
        for (int right = least; right <= most; right++) {
            int number = right;
            let(call + " of " + right, maker.get(), walk -> ranged.call(walk, number));
        }
    }

    private static void cells(String call, Ranged ranged) {
        range(call, 0, 7, INDEX, ActsTest::busy, ranged);
    }

    /** "if cell is not 0 to 7", "if a CELL that is told is not 0 to 7" */
    private static void cellsOfActs() {
        cells("put, cell", (walk, cell) -> walk.put(cell, 1, 2, 0));
        cells("make, cell", (walk, cell) -> walk.make(cell, 2));
        cells("stretch, cell", (walk, cell) -> walk.stretch(cell, 1));
        cells("addSteps, one", (walk, cell) -> walk.addSteps(cell, 5, 0));
        cells("addSteps, other", (walk, cell) -> walk.addSteps(5, cell, 0));
        cells("addSteps, into", (walk, cell) -> walk.addSteps(1, 2, cell));
        cells("takeStep, cell", (walk, cell) -> walk.takeStep(cell, 0, 1));
    }

    private static void cellsOfAsks() {
        cells("across", Raywalk::across);
        cells("up", Raywalk::up);
        cells("signs", Raywalk::signs);
        cells("upper", Raywalk::upper);
        cells("lower", Raywalk::lower);
        cells("grade, cell", (walk, cell) -> walk.grade(cell, 5));
        cells("order, one", (walk, cell) -> walk.order(cell, 0, 0));
        cells("order, other", (walk, cell) -> walk.order(0, cell, 0));
        cells("like, one", (walk, cell) -> walk.like(cell, 0));
        cells("like, other", (walk, cell) -> walk.like(0, cell));
        cells("same, one", (walk, cell) -> walk.same(cell, 0, 0));
        cells("same, other", (walk, cell) -> walk.same(0, cell, 0));
        cells("side, one", (walk, cell) -> walk.side(cell, 0));
        cells("side, other", (walk, cell) -> walk.side(0, cell));
        cells("eighth", Raywalk::eighth);
        cells("rule, cell", (walk, cell) -> walk.rule(cell, 0));
        cells("find, cell", (walk, cell) -> walk.find(cell, false));
        cells("find from the end, cell", (walk, cell) -> walk.find(cell, true));
    }

    private static void arguments(String call, int least, int most, Ranged ranged) {
        range(call, least, most, ARGUMENT, ActsTest::busy, ranged);
    }

    private static void argumentsOfCells() {
        arguments("put, across", -127, 127, (walk, across) -> walk.put(0, across, 5, 0));
        arguments("put, up", -127, 127, (walk, up) -> walk.put(0, 5, up, 0));
        arguments("put, signs", 0, 3, (walk, signs) -> walk.put(0, 5, 5, signs));
        arguments("make, which", 0, 5, (walk, which) -> walk.make(0, which));
        arguments("stretch, by", 1, 127, (walk, by) -> walk.stretch(0, by));
        arguments("grade, digits", 0, 29, (walk, digits) -> walk.grade(0, digits));
        arguments("order, how", 0, 2, (walk, how) -> walk.order(0, 1, how));
        arguments("same, how", 0, 1, (walk, how) -> walk.same(0, 1, how));
        arguments("rule, which", 0, 7, (walk, which) -> walk.rule(0, which));
    }

    private static void allPlaceNumbers(String field, int count, Supplier<Raywalk> maker) {
        int most = count - 1;
        range(field + ", takeStep, from", 0, most, INDEX, maker, (walk, number) -> walk.takeStep(0, number, 0));
        range(field + ", takeStep, to", 0, most, INDEX, maker, (walk, number) -> walk.takeStep(0, 0, number));
        range(field + ", removePlace", 0, most, INDEX, maker, Raywalk::removePlace);
        range(field + ", movePlace, number", 0, most, INDEX, maker, (walk, number) -> walk.movePlace(number, 33, 33));
        range(field + ", place, x", 0, most, INDEX, maker, (walk, number) -> walk.place(number, false));
        range(field + ", place, y", 0, most, INDEX, maker, (walk, number) -> walk.place(number, true));
        range(field + ", bearing, from", 0, most, INDEX, maker, (walk, number) -> walk.bearing(number, 0, 0));
        range(field + ", bearing, to", 0, most, INDEX, maker, (walk, number) -> walk.bearing(0, number, 0));
        range(field + ", bearingOrder, from", 0, most, INDEX, maker, (walk, number) -> walk.bearingOrder(number, 0, 0));
        range(field + ", bearingOrder, one", 0, most, INDEX, maker, (walk, number) -> walk.bearingOrder(0, number, 0));
        range(field + ", bearingOrder, other", 0, most, INDEX, maker, (walk, number) -> walk.bearingOrder(0, 0, number));
        range(field + ", left, from", 0, most, INDEX, maker, (walk, number) -> walk.left(number, 0, 0));
        range(field + ", left, to", 0, most, INDEX, maker, (walk, number) -> walk.left(0, number, 0));
        range(field + ", left, third", 0, most, INDEX, maker, (walk, number) -> walk.left(0, 0, number));
    }

    /** "if number is no PLACE", "if any of them is no PLACE" */
    private static void placeNumbers() {
        allPlaceNumbers("five places", BUSY_PLACES, ActsTest::busy);
    }

    private static void placeNumbersOfFewAndMany() {
        allPlaceNumbers("no places", 0, () -> withPlaces(0));
        allPlaceNumbers("one place", 1, () -> withPlaces(1));
        allPlaceNumbers("twelve places", 12, () -> withPlaces(12));
        allPlaceNumbers("eleven of twelve places", 11, () -> {
            Raywalk walk = withPlaces(12);
            walk.removePlace(4);
            return walk;
        });
    }

    /** "if x or y is not -64 to 63", "if digits is not 0 to 29" */
    private static void argumentsOfPlaces() {
        arguments("addPlace, x", -64, 63, (walk, x) -> walk.addPlace(x, 1));
        arguments("addPlace, y", -64, 63, (walk, y) -> walk.addPlace(1, y));
        arguments("movePlace, x", -64, 63, (walk, x) -> walk.movePlace(1, x, 1));
        arguments("movePlace, y", -64, 63, (walk, y) -> walk.movePlace(1, 1, y));
        arguments("centre, x", -64, 63, (walk, x) -> walk.centre(x, 1));
        arguments("centre, y", -64, 63, (walk, y) -> walk.centre(1, y));
        arguments("bearing, digits", 0, 29, (walk, digits) -> walk.bearing(0, 1, digits));
    }

    private static void house() {
        arguments("house", 0, 3, Raywalk::house);
    }

    private static void first(String call, Class<?> want, Consumer<Raywalk> run) {
        refused(call, want, ActsTest::busy, run);
    }

    /** "If several exceptions apply, the one that is named first is thrown" */
    private static void indexIsNamedFirst() {
        for (int cell : new int[] {-1, 8}) {
            first("put, cell and across", INDEX, walk -> walk.put(cell, 128, 0, 0));
            first("put, cell and up", INDEX, walk -> walk.put(cell, 0, -128, 0));
            first("put, cell and signs", INDEX, walk -> walk.put(cell, 0, 0, 4));
            first("put, all", INDEX, walk -> walk.put(cell, 128, -128, -1));
            first("make, all", INDEX, walk -> walk.make(cell, 6));
            first("stretch, all", INDEX, walk -> walk.stretch(cell, 0));
            first("grade, all", INDEX, walk -> walk.grade(cell, 30));
            first("order, one and how", INDEX, walk -> walk.order(cell, 0, 3));
            first("order, other and how", INDEX, walk -> walk.order(0, cell, -1));
            first("same, one and how", INDEX, walk -> walk.same(cell, 0, 2));
            first("same, other and how", INDEX, walk -> walk.same(0, cell, -1));
            first("rule, all", INDEX, walk -> walk.rule(cell, 8));
        }
        first("put, across and signs", ARGUMENT, walk -> walk.put(0, 128, 0, 4));
    }

    private static void indexIsNamedFirstOfPlaces() {
        for (int number : new int[] {-1, BUSY_PLACES}) {
            first("movePlace, number and x", INDEX, walk -> walk.movePlace(number, 64, 0));
            first("movePlace, number and y", INDEX, walk -> walk.movePlace(number, 0, -65));
            first("bearing, from and digits", INDEX, walk -> walk.bearing(number, 0, 30));
            first("bearing, to and digits", INDEX, walk -> walk.bearing(0, number, -1));
            first("takeStep, cell and from", INDEX, walk -> walk.takeStep(8, number, 0));
        }
        refused("movePlace of no places, all", INDEX, () -> withPlaces(0), walk -> walk.movePlace(0, 64, 64));
    }

    /** "exceptions go ahead of -9" */
    private static void exceptionsGoAheadOfMinus9() {
        first("stretch beyond all, by 128", ARGUMENT, walk -> walk.stretch(4, 128));
        first("addSteps beyond all, into 8", INDEX, walk -> walk.addSteps(0, 0, 8));
        first("rule 8 of a null step", ARGUMENT, walk -> walk.rule(5, 8));
        first("side of a null step and cell 8", INDEX, walk -> walk.side(5, 8));
        first("side of cell 8 and a null step", INDEX, walk -> walk.side(8, 5));
        first("movePlace, another place at y, x 64", ARGUMENT, walk -> walk.movePlace(0, 64, 5));
        first("movePlace, number 5, onto another", INDEX, walk -> walk.movePlace(5, 5, 5));
        first("bearing to itself, 30 digits", ARGUMENT, walk -> walk.bearing(1, 1, 30));
        first("bearing of no place to itself", INDEX, walk -> walk.bearing(5, 5, 0));
        first("bearingOrder, one is from, other is no place", INDEX, walk -> walk.bearingOrder(1, 1, 5));
        first("bearingOrder, other is from, one is no place", INDEX, walk -> walk.bearingOrder(1, -1, 1));
        first("bearingOrder, all are one number that is no place", INDEX, walk -> walk.bearingOrder(5, 5, 5));
        first("left, to is from, third is no place", INDEX, walk -> walk.left(1, 1, 5));
        first("left, third is from, to is no place", INDEX, walk -> walk.left(1, -1, 1));
        first("left, all are one number that is no place", INDEX, walk -> walk.left(-1, -1, -1));
        refused("addPlace of a thirteenth, x 64", ARGUMENT, () -> withPlaces(12), walk -> walk.addPlace(64, 0));
        refused("addPlace of a thirteenth, y -65", ARGUMENT, () -> withPlaces(12), walk -> walk.addPlace(0, -65));
    }

    private static void cannot(String call, int counted, Supplier<Raywalk> maker, ToIntFunction<Raywalk> run) {
        Raywalk walk = maker.get();
        String before = Told.stateOf(walk);
        int refusals = walk.house(2);
        for (int times = 1; times <= 2; times++) {
            CHECK.due(call, run.applyAsInt(walk), -9);
            CHECK.due("state after " + call, Told.stateOf(walk), before);
            CHECK.due("refusals after " + call, walk.house(2), refusals + counted * times);
        }
    }

    /** "-9 is told where a call is let, but cannot be done ...; nothing is changed then (but that house() counts it, if it is an ACT)." */
    private static void actsThatCannotBeDone() {
        cannot("stretch, across", 1, ActsTest::busy, walk -> walk.stretch(1, 2));
        cannot("stretch, up", 1, ActsTest::busy, walk -> walk.stretch(7, 2));
        cannot("stretch, both", 1, ActsTest::busy, walk -> walk.stretch(4, 127));
        cannot("addSteps, across", 1, ActsTest::busy, walk -> walk.addSteps(0, 1, 2));
        cannot("addSteps, up", 1, ActsTest::busy, walk -> walk.addSteps(7, 7, 7));
        cannot("addSteps, both", 1, ActsTest::busy, walk -> walk.addSteps(4, 4, 0));
        cannot("addPlace, there is one", 1, ActsTest::busy, walk -> walk.addPlace(5, 5));
        cannot("addPlace, the first is there", 1, ActsTest::busy, walk -> walk.addPlace(-64, 63));
        cannot("addPlace, the last is there", 1, ActsTest::busy, walk -> walk.addPlace(63, -64));
        cannot("addPlace, one is there, at the centre", 1, ActsTest::busy, walk -> walk.addPlace(7, -8));
        cannot("movePlace, onto the first", 1, ActsTest::busy, walk -> walk.movePlace(1, -64, 63));
        cannot("movePlace, onto the last", 1, ActsTest::busy, walk -> walk.movePlace(0, 63, -64));
        cannot("movePlace, the last onto one before", 1, ActsTest::busy, walk -> walk.movePlace(4, -9, -9));
    }

    private static void actsThatCannotBeDoneOnAFullField() {
        cannot("addPlace, there are twelve", 1, () -> withPlaces(12), walk -> walk.addPlace(40, 40));
        cannot("addPlace, there are twelve, one there", 1, () -> withPlaces(12), walk -> walk.addPlace(0, 0));
        cannot("movePlace of twelve", 1, () -> withPlaces(12), walk -> walk.movePlace(11, 0, 0));
        Raywalk full = withPlaces(12);
        CHECK.due("movePlace of twelve, elsewhere", full.movePlace(11, 40, 40), 1);
        CHECK.due("removePlace of twelve", full.removePlace(11), 11);
        CHECK.due("addPlace as the twelfth", full.addPlace(40, 40), 11);
    }

    /** "... or has nothing to tell": no ACT, so house() does not count it. */
    private static void asksWithNothingToTell() {
        cannot("lower of one that is not FIXED", 0, ActsTest::busy, walk -> walk.lower(2));
        cannot("grade that is -9", 0, ActsTest::busy, walk -> walk.grade(2, 2));
        cannot("side, first one null", 0, ActsTest::busy, walk -> walk.side(5, 0));
        cannot("side, other one null", 0, ActsTest::busy, walk -> walk.side(0, 5));
        cannot("side, null and itself", 0, ActsTest::busy, walk -> walk.side(5, 5));
        for (int which = 2; which <= 5; which++) {
            int rule = which;
            cannot("rule " + which + " of a null step", 0, ActsTest::busy, walk -> walk.rule(5, rule));
        }
        cannot("place's x of -9", 0, ActsTest::busy, walk -> walk.place(2, false));
        cannot("place's y of -9", 0, ActsTest::busy, walk -> walk.place(2, true));
        cannot("centre's x of -9", 0, ActsTest::centreOfMinus9, walk -> walk.centreAt(false));
        cannot("centre's y of -9", 0, ActsTest::centreOfMinus9, walk -> walk.centreAt(true));
        for (int digits = 0; digits <= 29; digits++) {
            int many = digits;
            cannot("bearing to itself", 0, ActsTest::busy, walk -> walk.bearing(1, 1, many));
        }
        cannot("bearingOrder, one is from", 0, ActsTest::busy, walk -> walk.bearingOrder(1, 1, 2));
        cannot("bearingOrder, other is from", 0, ActsTest::busy, walk -> walk.bearingOrder(1, 2, 1));
        cannot("bearingOrder, both are from", 0, ActsTest::busy, walk -> walk.bearingOrder(1, 1, 1));
        cannot("left, second is first", 0, ActsTest::busy, walk -> walk.left(1, 1, 2));
        cannot("left, third is first", 0, ActsTest::busy, walk -> walk.left(1, 2, 1));
        cannot("left, all are one", 0, ActsTest::busy, walk -> walk.left(1, 1, 1));
        cannot("rounds, a place at the centre", 0, ActsTest::busy, Raywalk::rounds);
    }

    private static Raywalk centreOfMinus9() {
        Raywalk walk = busy();
        walk.centre(-9, -9);
        return walk;
    }

    private static void asksChangeNothing() {
        Raywalk walk = busy();
        String before = Told.stateOf(walk);
        long digest = walk.digest();
        for (int cell = 0; cell < 8; cell++) {
            walk.lower(cell);
            walk.grade(cell, cell);
            walk.order(cell, 7 - cell, 1);
            walk.like(cell, 7 - cell);
            walk.same(cell, 7 - cell, 1);
            walk.side(cell, 7 - cell);
            walk.eighth(cell);
            walk.rule(cell, cell);
            walk.find(cell, true);
        }
        walk.bearing(0, 1, 5);
        walk.bearingOrder(0, 1, 2);
        walk.left(0, 1, 2);
        walk.isStar();
        walk.starArea();
        walk.hullArea();
        walk.rounds();
        walk.isSound();
        CHECK.due("state after all that is asked", Told.stateOf(walk), before);
        CHECK.due("digest after all that is asked", walk.digest(), digest);
    }

    private static void counts(String call, int cells, int places, Consumer<Raywalk> run) {
        Raywalk walk = busy();
        int[] before = {walk.house(0), walk.house(1), walk.house(2), walk.house(3)};
        run.accept(walk);
        CHECK.due("acts on cells after " + call, walk.house(0), before[0] + cells);
        CHECK.due("acts on places after " + call, walk.house(1), before[1] + places);
        CHECK.due("refusals after " + call, walk.house(2), before[2]);
        CHECK.due("knocks after " + call, walk.house(3), before[3]);
    }

    /** house(): "(also if all stays as it was; ...)" */
    private static void actsThatLeaveAllAsItWasAreCounted() {
        counts("put of the same", 1, 0, walk -> walk.put(2, -3, -4, 0));
        counts("stretch by 1", 1, 0, walk -> walk.stretch(2, 1));
        counts("stretch of null", 1, 0, walk -> walk.stretch(5, 127));
        counts("addSteps of nothing", 1, 0, walk -> walk.addSteps(2, 5, 2));
        counts("sortSteps and once more", 2, 0, walk -> {
            walk.sortSteps(true);
            CHECK.due("sorted already", walk.sortSteps(true), 0);
        });
        counts("movePlace to where it is", 0, 1, walk -> CHECK.due("moved", walk.movePlace(1, 5, 5), 0));
        counts("centre to where it is", 0, 1, walk -> CHECK.due("moved", walk.centre(7, -8), 0));
    }

    /** house(): "0 how many ACTS were done on CELLS ..., 1 how many on PLACES and the CENTRE" */
    private static void eachActIsCountedOnItsSide() {
        counts("put", 1, 0, walk -> walk.put(0, 1, 1, 0));
        counts("make", 1, 0, walk -> walk.make(0, 4));
        counts("make of a null step", 1, 0, walk -> walk.make(5, 4));
        counts("stretch", 1, 0, walk -> walk.stretch(2, 3));
        counts("addSteps", 1, 0, walk -> walk.addSteps(2, 3, 4));
        counts("takeStep", 1, 0, walk -> walk.takeStep(0, 1, 2));
        counts("sortSteps", 1, 0, walk -> walk.sortSteps(false));
        counts("addPlace", 0, 1, walk -> walk.addPlace(1, 1));
        counts("removePlace", 0, 1, walk -> walk.removePlace(0));
        counts("movePlace", 0, 1, walk -> walk.movePlace(0, 1, 1));
        counts("centre", 0, 1, walk -> walk.centre(1, 1));
        counts("turnPlaces", 0, 1, Raywalk::turnPlaces);
        counts("mirrorPlaces", 0, 1, Raywalk::mirrorPlaces);
        counts("digest and isSound", 0, 0, walk -> {
            walk.digest();
            walk.isSound();
        });
    }
}
