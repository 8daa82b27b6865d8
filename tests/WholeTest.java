import java.math.BigInteger;
import java.util.List;

/** Promises 41 to 44: the counts, knocking, soundness and the checksum. */
public final class WholeTest {
    private static final Check CHECK = new Check();

    public static void main(String[] args) {
        house();
        knock();
        isSound();
        isSoundAtTheRims();
        digestOfANewObject();
        digestTellsChangesApart();
        digestOfBusyObjects();
        digestWrapsAround();
        digestTakesNumbersBelowZeroAsTheyAre();
        digestTakesMinus9();
        theLastOf512Calls();
        objectsKnowNothingOfEachOther();
        CHECK.end();
    }

    private static void house() {
        Raywalk walk = new Raywalk();
        walk.put(0, 1, 0, 0);
        walk.sortSteps(false);
        walk.stretch(0, 127);
        walk.stretch(0, 127);
        walk.addPlace(1, 1);
        walk.addPlace(1, 1);
        walk.movePlace(0, 1, 1);
        walk.centre(0, 0);
        walk.knock();
        walk.side(0, 1);
        CHECK.noCell("put(9, ..)", () -> walk.put(9, 0, 0, 0));
        CHECK.due("acts on cells", walk.house(0), 3);
        CHECK.due("acts on places and the centre", walk.house(1), 3);
        CHECK.due("refusals", walk.house(2), 2);
        CHECK.due("knocks", walk.house(3), 1);
        CHECK.noArgument("house(4)", () -> walk.house(4));
        CHECK.noArgument("house(-1)", () -> walk.house(-1));
    }

    private static void knock() {
        Raywalk walk = new Raywalk();
        for (int times = 1; times <= 3; times++) {
            CHECK.due("knock", walk.knock(), times);
        }
        CHECK.due("no act on cells", walk.house(0), 0);
        CHECK.due("no act on places", walk.house(1), 0);
        CHECK.due("of another object", new Raywalk().knock(), 1);
    }

    private static void isSound() {
        Raywalk walk = new Raywalk();
        CHECK.due("new", walk.isSound(), true);
        int[][] rim = {{-1, 0, 2}, {-1, 0, 0}, {0, 0, 1}, {0, 0, 3}, {1, 0, 2}, {127, 126, 0}, {126, 125, 0}, {-126, -125, 0}};
        for (int cell = 0; cell < 8; cell++) {
            walk.put(cell, rim[cell][0], rim[cell][1], rim[cell][2]);
        }
        CHECK.due("at the rims", walk.isSound(), true);
        walk.addPlace(5, 5);
        walk.addPlace(-5, 5);
        walk.addPlace(0, -5);
        CHECK.due("with a star", walk.isStar() && walk.isSound(), true);
    }

    private static void digestOfANewObject() {
        long want = 7682;
        for (int cell = 0; cell < 8; cell++) {
            int[] told = {1, 0, 0, 0, 0, 0, 4, 0};
            for (int value : told) {
                want = want * 31 + value;
            }
        }
        for (int pair = 0; pair < 28; pair++) {
            int[] told = {0, 1, 0};
            for (int value : told) {
                want = want * 31 + value;
            }
        }
        // places, centre x and y, round count, star, star area, hull count, hull area, rounds, house of 0 to 3, sound
        int[] told = {0, 0, 0, 0, 0, 0, 0, 0, 0, 0, 0, 0, 0, 1};
        for (int value : told) {
            want = want * 31 + value;
        }
        CHECK.due("digest", new Raywalk().digest(), want);
        Raywalk walk = new Raywalk();
        CHECK.due("asked twice", walk.digest() == walk.digest(), true);
    }

    private static void isSoundAtTheRims() {
        int[][] spots = {{-64, -64, 63, 63, -64, 63, 63, -64}, {-64, -64, -63, -63, 62, 63, 63, 63}, {0, 0}, {5, 5, 6, 6},
            {1, 0, -1, 0}, {63, -1, -64, -1, 0, 63, -64, -2}, {}};
        for (int[] row : spots) {
            Raywalk walk = new Raywalk();
            for (int at = 0; at < row.length; at += 2) {
                walk.addPlace(row[at], row[at + 1]);
            }
            for (int at = 0; at < 8; at++) {
                walk.centre(at * 9 % 8 - 4, at * at % 5 - 2);
                CHECK.due("places, centre " + at, walk.isSound(), true);
            }
        }
        int[][] near = {{127, 126, 0}, {126, 125, 0}, {125, 124, 0}, {-127, -126, 0}, {-126, -125, 0}, {-125, -124, 0},
            {127, 127, 0}, {-127, -127, 0}};
        for (int rule = 0; rule < 6; rule++) {
            Raywalk walk = new Raywalk();
            for (int cell = 0; cell < 8; cell++) {
                walk.put(cell, near[cell][0], near[cell][1], near[cell][2]);
                walk.make(cell, rule);
            }
            CHECK.due("most alike steps, by rule " + rule, walk.isSound(), true);
        }
    }

    private static void digestTellsChangesApart() {
        Raywalk walk = new Raywalk();
        long first = walk.digest();
        walk.knock();
        CHECK.due("a knock", walk.digest() == first, false);
        Raywalk other = new Raywalk();
        other.put(0, 1, 0, 2);
        CHECK.due("the other zero", other.digest() == first, false);
    }

    private static Raywalk busy() {
        Raywalk walk = new Raywalk();
        int[][] steps = {{100, -20, 0}, {64, 3, 0}, {-3, -4, 0}, {0, 7, 1}, {-127, 127, 0}, {0, 0, 3}, {1, 0, 2}, {-6, -8, 0}};
        for (int cell = 0; cell < 8; cell++) {
            walk.put(cell, steps[cell][0], steps[cell][1], steps[cell][2]);
        }
        int[] spots = {-64, 63, 5, 5, -9, -9, 7, -8, 63, -64, 63, 63, -64, -63};
        for (int at = 0; at < spots.length; at += 2) {
            walk.addPlace(spots[at], spots[at + 1]);
        }
        walk.centre(7, -7);
        walk.addPlace(5, 5);
        walk.stretch(0, 2);
        walk.stretch(0, 2);
        for (int times = 0; times < 5; times++) {
            walk.knock();
        }
        return walk;
    }

    private static Raywalk busyAboutAPlace() {
        Raywalk walk = busy();
        walk.centre(-9, -9);
        return walk;
    }

    private static Raywalk full() {
        Raywalk walk = new Raywalk();
        for (int number = 0; number < 12; number++) {
            walk.addPlace(number * number % 13 - 6, number * 5 % 12 - 6);
        }
        return walk;
    }

    /** digest(): "for each v in this order: ..." */
    private static void digestOfBusyObjects() {
        for (Raywalk walk : new Raywalk[] {new Raywalk(), busy(), busyAboutAPlace(), full()}) {
            List<Integer> values = Told.valuesOf(walk);
            CHECK.due("digest of " + values, walk.digest(), Told.sumOf(values).longValue());
        }
        CHECK.due("a star among them", full().isStar(), true);
        CHECK.due("one with a place at the centre", busyAboutAPlace().rounds(), -9);
    }

    /** digest(): "which wraps around as a 64-bit integer" */
    private static void digestWrapsAround() {
        BigInteger whole = BigInteger.ONE.shiftLeft(64);
        boolean hasBelowZero = false;
        boolean hasAboveZero = false;
        for (int turns = 0; turns < 16; turns++) {
            Raywalk walk = busy();
            walk.put(0, turns - 8, 3, 0);
            BigInteger sum = Told.sumOf(Told.valuesOf(walk));
            CHECK.due("it is beyond 64 digits", sum.abs().compareTo(whole) > 0, true);
            BigInteger rest = sum.mod(whole);
            BigInteger wrapped = rest.testBit(63) ? rest.subtract(whole) : rest;
            long digest = walk.digest();
            CHECK.due("the rest of it", BigInteger.valueOf(digest), wrapped);
            hasBelowZero |= digest < 0;
            hasAboveZero |= digest > 0;
        }
        CHECK.due("one wraps to below 0", hasBelowZero, true);
        CHECK.due("one wraps to above 0", hasAboveZero, true);
    }

    /** upper() of a LOWER one is an int below 0, and so is the v that is taken, not a number of 32 digits above 0. */
    private static void digestTakesNumbersBelowZeroAsTheyAre() {
        for (int signs = 0; signs < 4; signs++) {
            Raywalk walk = new Raywalk();
            walk.put(7, -127, 0, signs);
            walk.put(0, 0, -1, signs);
            List<Integer> values = Told.valuesOf(walk);
            CHECK.due("upper below 0", values.get(3) < 0, true);
            CHECK.due("digest", walk.digest(), Told.sumOf(values).longValue());
        }
    }

    /** lower(), side() and rounds() that tell -9 go into the sum as -9, and are not counted while it is computed. */
    private static void digestTakesMinus9() {
        Raywalk walk = new Raywalk();
        walk.put(0, 2, 1, 0);
        walk.put(1, 0, 0, 0);
        walk.addPlace(0, 0);
        long digest = walk.digest();
        List<Integer> values = Told.valuesOf(walk);
        CHECK.due("lower", values.get(4), -9);
        CHECK.due("side", values.get(64 + 2), -9);
        CHECK.due("rounds", values.get(values.size() - 6), -9);
        CHECK.due("refusals", values.get(values.size() - 3), 0);
        CHECK.due("digest", digest, Told.sumOf(values).longValue());
        CHECK.due("digest once more", walk.digest(), digest);
    }

    /** "An object is used for at most 512 calls after it has been made": the last of them is as good as the first. */
    private static void theLastOf512Calls() {
        Raywalk knocks = new Raywalk();
        Raywalk acts = new Raywalk();
        Raywalk refusals = new Raywalk();
        Raywalk digests = new Raywalk();
        acts.addPlace(1, 1);
        refusals.put(0, 127, 0, 0);
        long digest = 0;
        for (int call = 1; call <= 510; call++) {
            knocks.knock();
            acts.movePlace(0, call % 64, call % 63);
            refusals.addSteps(0, 0, 1);
            digest = digests.digest();
        }
        CHECK.due("knock 511", knocks.knock(), 511);
        CHECK.due("knock 512", knocks.knock(), 512);
        CHECK.due("acts after 511 calls", acts.house(1), 511);
        CHECK.due("refusals after 511 calls", refusals.house(2), 510);
        CHECK.due("digest 511", digests.digest(), digest);
        CHECK.due("digest 512", digests.digest(), digest);
        CHECK.due("digest of a new one", new Raywalk().digest(), digest);
    }

    private static void objectsKnowNothingOfEachOther() {
        Raywalk first = new Raywalk();
        long atFirst = first.digest();
        Raywalk second = busy();
        CHECK.due("one that rested", first.digest(), atFirst);
        CHECK.due("one made later", new Raywalk().digest(), atFirst);
        long busy = second.digest();
        first.put(0, 5, 5, 0);
        first.addPlace(1, 1);
        first.knock();
        CHECK.due("the busy one", second.digest(), busy);
        CHECK.due("as busy a one", busy().digest(), busy);
    }
}
