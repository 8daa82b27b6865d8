/** Section 6 (Cells), and the acts on cells: a test for each sentence that names an edge. */
public final class CellsTest {
    private static final Check CHECK = new Check();
    private static final String UNIT = Told.step(1, 0, 0);

    public static void main(String[] args) {
        eightCellsAtFirst();
        aStepComesToOneCellAlone();
        moveOfEachAct();
        moveIsOfTheStepThatWasThere();
        stretchToTheRimAndBeyond();
        stretchLeavesZeros();
        stretchByOne();
        sumOfZeros();
        sumOfOpposites();
        sumJustWithinAndBeyond();
        sumIntoOneOfBoth();
        takeStepFromRimToRim();
        takeStepHasZerosOfSignZero();
        takeStepToTheSamePlace();
        sortUpAndDown();
        sortKeepsSameOnesInTheirOrder();
        sortCountsTheOtherZero();
        sortCountsCellsNotMoves();
        findFirstAndLast();
        findIsBySameNotLike();
        CHECK.end();
    }

    private static Raywalk withSteps(int[]... steps) {
        Raywalk walk = new Raywalk();
        for (int cell = 0; cell < steps.length; cell++) {
            walk.put(cell, steps[cell][0], steps[cell][1], steps[cell][2]);
        }
        return walk;
    }

    private static void dueStep(String what, Raywalk walk, int cell, int across, int up, int signs) {
        CHECK.due(what + ", cell " + cell, Told.stepOf(walk, cell), Told.step(across, up, signs));
    }

    /** "There are eight CELLS, 0 to 7 ... At first each one has (1, 0), its ZERO with SIGN 0." */
    private static void eightCellsAtFirst() {
        Raywalk walk = new Raywalk();
        for (int cell = 0; cell < 8; cell++) {
            CHECK.due("cell " + cell + " at first", Told.stepOf(walk, cell), UNIT);
            CHECK.due("digits of cell " + cell + " at first", walk.upper(cell) | walk.lower(cell), 0);
        }
        CHECK.noCell("across(8)", () -> walk.across(8));
        CHECK.noCell("across(-1)", () -> walk.across(-1));
    }

    private static void aStepComesToOneCellAlone() {
        for (int cell = 0; cell < 8; cell++) {
            Raywalk walk = new Raywalk();
            walk.put(cell, -3, 0, 2);
            walk.addSteps(cell, (cell + 1) % 8, (cell + 2) % 8);
            for (int other = 0; other < 8; other++) {
                String want = other == cell ? Told.step(-3, 0, 3) : other == (cell + 2) % 8 ? Told.step(-2, 0, 1) : UNIT;
                CHECK.due("cell " + other + " after acts on " + cell, Told.stepOf(walk, other), want);
            }
        }
    }

    /** "-1: the new one stands AHEAD; 1: that which was there; 0: their ANSWERS are the SAME" */
    private static void moveOfEachAct() {
        Raywalk walk = withSteps(new int[] {3, 4, 0}, new int[] {-1, -1, 0}, new int[] {2, 3, 0}, new int[] {0, 1, 0});
        walk.addPlace(0, 0);
        walk.addPlace(3, 4);
        walk.addPlace(6, 8);
        walk.addPlace(-5, -5);
        CHECK.due("put, ahead", walk.put(0, 4, 3, 0), -1);
        CHECK.due("put, behind", walk.put(0, 3, 4, 0), 1);
        CHECK.due("put, same", walk.put(0, 6, 8, 0), 0);
        CHECK.due("addSteps, same", walk.addSteps(0, 0, 0), 0);
        CHECK.due("addSteps, behind", walk.addSteps(0, 3, 0), 1);
        CHECK.due("addSteps, ahead", walk.addSteps(1, 1, 0), -1);
        CHECK.due("takeStep, behind", walk.takeStep(0, 0, 1), 1);
        CHECK.due("takeStep, same", walk.takeStep(0, 0, 2), 0);
        CHECK.due("takeStep, ahead", walk.takeStep(0, 0, 3), -1);
        CHECK.due("make, behind", walk.make(0, 5), 1);
        CHECK.due("make, same", walk.make(0, 4), 0);
        CHECK.due("make, ahead", walk.make(0, 3), -1);
        CHECK.due("stretch, same", walk.stretch(0, 2), 0);
    }

    /** "the MOVE is ORDER of the new STEP and the one that was there" in the very CELL, not of both that were added. */
    private static void moveIsOfTheStepThatWasThere() {
        Raywalk walk = withSteps(new int[] {1, 1, 0}, new int[] {1, 1, 0}, new int[] {-1, -1, 0}, new int[] {-1, 1, 0});
        CHECK.due("sum over what is ahead", walk.addSteps(0, 1, 2), 1);
        CHECK.due("sum over what is behind", walk.addSteps(0, 1, 3), -1);
        CHECK.due("sum over the same", walk.addSteps(0, 1, 2), 0);
        CHECK.due("other zero ahead", walk.put(7, 1, 0, 2), -1);
        CHECK.due("zero behind the other zero", walk.put(7, 1, 0, 0), 1);
        CHECK.due("other zero across changes no answer", walk.put(6, 0, 5, 1) + walk.put(6, 0, 5, 0), 1);
    }

    /** stretch(): "-9 if one would be no COORDINATE" */
    private static void stretchToTheRimAndBeyond() {
        for (int by = 1; by <= 127; by++) {
            int most = 127 / by;
            for (int one : new int[] {most, -most}) {
                for (int other : new int[] {0, 1, most}) {
                    Raywalk walk = withSteps(new int[] {one, other, 0}, new int[] {other, one, 0});
                    CHECK.due(one + " across times " + by, walk.stretch(0, by), 0);
                    dueStep("across times " + by, walk, 0, one * by, other * by, one < 0 ? 1 : 0);
                    CHECK.due(one + " up times " + by, walk.stretch(1, by), 0);
                    dueStep("up times " + by, walk, 1, other * by, one * by, one < 0 ? 2 : 0);
                }
                int beyond = one < 0 ? one - 1 : one + 1;
                if (by > 1) {
                    Raywalk walk = withSteps(new int[] {beyond, 1, 0}, new int[] {1, beyond, 0}, new int[] {0, beyond, 1});
                    for (int cell = 0; cell < 3; cell++) {
                        String was = Told.stepOf(walk, cell);
                        CHECK.due(was + " times " + by, walk.stretch(cell, by), -9);
                        CHECK.due(was + " left as it was", Told.stepOf(walk, cell), was);
                    }
                    CHECK.due("refusals", walk.house(2), 3);
                }
            }
        }
    }

    /** stretch(): "(ZEROS stay as they are)" */
    private static void stretchLeavesZeros() {
        for (int signs = 0; signs < 4; signs++) {
            Raywalk walk = withSteps(new int[] {0, 0, signs}, new int[] {0, -1, signs}, new int[] {-1, 0, signs});
            for (int cell = 0; cell < 3; cell++) {
                CHECK.due("move", walk.stretch(cell, 127), 0);
            }
            dueStep("null", walk, 0, 0, 0, signs);
            dueStep("zero across", walk, 1, 0, -127, signs & 1 | 2);
            dueStep("zero up", walk, 2, -127, 0, signs & 2 | 1);
        }
    }

    /** stretch(): "if by is not 1 to 127" */
    private static void stretchByOne() {
        Raywalk walk = withSteps(new int[] {127, -127, 0});
        CHECK.due("the greatest by 1", walk.stretch(0, 1), 0);
        dueStep("by 1", walk, 0, 127, -127, 2);
        CHECK.due("done", walk.house(0), 2);
        CHECK.noArgument("by 0", () -> walk.stretch(0, 0));
        CHECK.noArgument("by -1", () -> walk.stretch(0, -1));
        CHECK.noArgument("by 128", () -> walk.stretch(0, 128));
        CHECK.due("by 127, too far", walk.stretch(0, 127), -9);
    }

    /** "a sum that is 0 has SIGN 1 if both are the ZERO with SIGN 1" (of ACROSS and of UP, each for itself) */
    private static void sumOfZeros() {
        for (int one = 0; one < 4; one++) {
            for (int other = 0; other < 4; other++) {
                Raywalk walk = withSteps(new int[] {0, 0, one}, new int[] {0, 0, other});
                walk.addSteps(0, 1, 2);
                dueStep("null " + one + " and " + other, walk, 2, 0, 0, one & other);
                walk = withSteps(new int[] {0, 5, one}, new int[] {0, -9, other});
                walk.addSteps(0, 1, 2);
                dueStep("across " + one + " and " + other, walk, 2, 0, -4, one & other & 1 | 2);
                walk = withSteps(new int[] {-5, 0, one}, new int[] {9, 0, other});
                walk.addSteps(0, 1, 2);
                dueStep("up " + one + " and " + other, walk, 2, 4, 0, one & other & 2);
            }
        }
    }

    /** "otherwise SIGN 0" */
    private static void sumOfOpposites() {
        for (int value : new int[] {-127, -1, 1, 127}) {
            Raywalk walk = withSteps(new int[] {value, value, 3}, new int[] {-value, -value, 3});
            walk.addSteps(0, 1, 2);
            dueStep("both", walk, 2, 0, 0, 0);
            walk.addSteps(1, 0, 3);
            dueStep("both, the other way", walk, 3, 0, 0, 0);
            walk = withSteps(new int[] {value, -1, 0}, new int[] {-value, -1, 0}, new int[] {-1, value, 0}, new int[] {-1, -value, 0});
            walk.addSteps(0, 1, 4);
            dueStep("across alone", walk, 4, 0, -2, 2);
            walk.addSteps(2, 3, 5);
            dueStep("up alone", walk, 5, -2, 0, 1);
        }
    }

    /** addSteps(): "-9 if a sum would be no COORDINATE" */
    private static void sumJustWithinAndBeyond() {
        for (int one = 0; one <= 127; one++) {
            for (int sign : new int[] {1, -1}) {
                int within = sign * one;
                int rest = sign * (127 - one);
                int more = sign * (128 - one);
                Raywalk walk = withSteps(new int[] {within, 1, 0}, new int[] {rest, 1, 0},
                        new int[] {1, within, 0}, new int[] {1, rest, 0});
                walk.addSteps(0, 1, 6);
                CHECK.due("across " + within + " and " + rest, walk.across(6), sign * 127);
                walk.addSteps(2, 3, 6);
                CHECK.due("up " + within + " and " + rest, walk.up(6), sign * 127);
                if (one > 0) {
                    walk.put(4, more, 1, 0);
                    walk.put(5, 1, more, 0);
                    CHECK.due("across " + within + " and " + more, walk.addSteps(0, 4, 7), -9);
                    CHECK.due("up " + within + " and " + more, walk.addSteps(5, 2, 7), -9);
                    CHECK.due("untouched", Told.stepOf(walk, 7), UNIT);
                }
            }
        }
    }

    /** addSteps(): "into: the CELL to which it comes", which may be that of the first one, of the other one, or both. */
    private static void sumIntoOneOfBoth() {
        Raywalk walk = withSteps(new int[] {1, 2, 0}, new int[] {-5, 3, 0});
        walk.addSteps(0, 1, 0);
        dueStep("into the first", walk, 0, -4, 5, 1);
        dueStep("the other one stays", walk, 1, -5, 3, 1);
        walk.addSteps(0, 1, 1);
        dueStep("into the other", walk, 1, -9, 8, 1);
        dueStep("the first one stays", walk, 0, -4, 5, 1);
        walk.addSteps(1, 1, 1);
        dueStep("into both", walk, 1, -18, 16, 1);
    }

    /** takeStep(): places from -64 to 63 are steps of up to 127, each way. */
    private static void takeStepFromRimToRim() {
        Raywalk walk = new Raywalk();
        walk.addPlace(-64, -64);
        walk.addPlace(63, 63);
        walk.addPlace(-64, 63);
        walk.addPlace(63, -64);
        int[][] due = {{0, 1, 127, 127, 0}, {1, 0, -127, -127, 3}, {2, 3, 127, -127, 2}, {3, 2, -127, 127, 1}};
        for (int[] way : due) {
            walk.takeStep(7, way[0], way[1]);
            dueStep("from " + way[0] + " to " + way[1], walk, 7, way[2], way[3], way[4]);
        }
    }

    /** "each 0 has SIGN 0" */
    private static void takeStepHasZerosOfSignZero() {
        Raywalk walk = new Raywalk();
        walk.addPlace(-64, 5);
        walk.addPlace(63, 5);
        walk.addPlace(-64, -7);
        int[][] due = {{0, 1, 127, 0, 0}, {1, 0, -127, 0, 1}, {0, 2, 0, -12, 2}, {2, 0, 0, 12, 0}};
        for (int[] way : due) {
            walk.put(1, 0, 0, 3);
            walk.takeStep(1, way[0], way[1]);
            dueStep("from " + way[0] + " to " + way[1], walk, 1, way[2], way[3], way[4]);
        }
    }

    /** takeStep(): "or the same (then the STEP is NULL)" */
    private static void takeStepToTheSamePlace() {
        Raywalk walk = new Raywalk();
        walk.addPlace(-64, 63);
        walk.put(3, -1, 0, 3);
        CHECK.due("move", walk.takeStep(3, 0, 0), 1);
        dueStep("to itself", walk, 3, 0, 0, 0);
        CHECK.due("refusals", walk.house(2), 0);
    }

    private static final int[][] ORDERED = {{0, 0, 3}, {-5, -1, 3}, {0, -2, 2}, {3, 0, 2}, {7, 0, 0}, {127, 126, 0},
        {0, 127, 1}, {-127, 0, 1}};

    /** sortSteps(): "that which stands AHEAD comes to the CELL with the smaller number (if it is down: with the greater one)" */
    private static void sortUpAndDown() {
        int[][] shuffles = {{0, 1, 2, 3, 4, 5, 6, 7}, {7, 6, 5, 4, 3, 2, 1, 0}, {3, 7, 0, 5, 1, 6, 2, 4}, {1, 0, 3, 2, 5, 4, 7, 6}};
        for (int[] shuffle : shuffles) {
            for (boolean isDown : new boolean[] {false, true}) {
                Raywalk walk = new Raywalk();
                int moved = 0;
                for (int at = 0; at < 8; at++) {
                    walk.put(shuffle[at], ORDERED[at][0], ORDERED[at][1], ORDERED[at][2]);
                    moved += shuffle[at] == (isDown ? 7 - at : at) ? 0 : 1;
                }
                CHECK.due("moved", walk.sortSteps(isDown), moved);
                for (int at = 0; at < 8; at++) {
                    dueStep("sorted", walk, isDown ? 7 - at : at, ORDERED[at][0], ORDERED[at][1], ORDERED[at][2]);
                }
                CHECK.due("sorted once more", walk.sortSteps(isDown), 0);
            }
        }
    }

    /** sortSteps(): "those whose ANSWERS are the SAME stay in the order in which they were", down, too. */
    private static void sortKeepsSameOnesInTheirOrder() {
        for (boolean isDown : new boolean[] {false, true}) {
            Raywalk walk = withSteps(new int[] {1, 1, 0}, new int[] {9, 0, 0}, new int[] {5, 5, 0}, new int[] {2, 0, 0},
                    new int[] {3, 3, 0}, new int[] {0, 0, 0}, new int[] {4, 4, 0}, new int[] {6, 0, 0});
            CHECK.due("changed", walk.sortSteps(isDown), isDown ? 6 : 8);
            int[] due = isDown ? new int[] {1, 5, 3, 4, 9, 2, 0, 6} : new int[] {9, 2, 0, 6, 1, 5, 3, 4};
            for (int cell = 0; cell < 8; cell++) {
                CHECK.due("across of cell " + cell, walk.across(cell), due[cell]);
            }
        }
        Raywalk same = withSteps(new int[] {8, 8, 0}, new int[] {3, 3, 0}, new int[] {5, 5, 0}, new int[] {1, 1, 0},
                new int[] {9, 9, 0}, new int[] {2, 2, 0}, new int[] {7, 7, 0}, new int[] {4, 4, 0});
        CHECK.due("all on one ray", same.sortSteps(false) + same.sortSteps(true), 0);
    }

    /** sortSteps(): "(the other ZERO is another one)" */
    private static void sortCountsTheOtherZero() {
        Raywalk across = withSteps(new int[] {0, 1, 1}, new int[] {0, 1, 0}, new int[] {1, 1, 0}, new int[] {-1, 1, 0},
                new int[] {-1, 1, 0}, new int[] {-1, 1, 0}, new int[] {-1, 1, 0}, new int[] {-1, 1, 0});
        CHECK.due("other zero across", across.sortSteps(false), 3);
        dueStep("second", across, 1, 0, 1, 1);
        dueStep("third", across, 2, 0, 1, 0);
        Raywalk up = withSteps(new int[] {1, 0, 0}, new int[] {1, 0, 2}, new int[] {1, 0, 0}, new int[] {1, 0, 0},
                new int[] {1, 0, 0}, new int[] {1, 0, 0}, new int[] {1, 0, 0}, new int[] {1, 0, 0});
        CHECK.due("other zero up", up.sortSteps(false), 2);
        dueStep("first", up, 0, 1, 0, 2);
        dueStep("second", up, 1, 1, 0, 0);
    }

    /** sortSteps(): "how many CELLS have another ACROSS or UP than they had": a twin in the place of a twin is none. */
    private static void sortCountsCellsNotMoves() {
        Raywalk walk = withSteps(new int[] {2, 0, 0}, new int[] {2, 0, 0}, new int[] {2, 0, 0}, new int[] {2, 0, 0},
                new int[] {2, 0, 0}, new int[] {2, 0, 0}, new int[] {2, 0, 0}, new int[] {1, -1, 0});
        CHECK.due("from the end to the begin", walk.sortSteps(false), 2);
        CHECK.due("and back", walk.sortSteps(true), 2);
        Raywalk lengths = withSteps(new int[] {1, 1, 0}, new int[] {2, 2, 0}, new int[] {1, 0, 0}, new int[] {-1, 0, 0},
                new int[] {-1, 0, 0}, new int[] {-1, 0, 0}, new int[] {-1, 0, 0}, new int[] {-1, 0, 0});
        CHECK.due("the same answer, but another length", lengths.sortSteps(false), 3);
    }

    /** find(): "the first CELL that has it, or the last one", the CELL itself among them. */
    private static void findFirstAndLast() {
        Raywalk walk = withSteps(new int[] {3, 4, 0}, new int[] {1, 1, 0}, new int[] {6, 8, 0}, new int[] {2, 2, 0},
                new int[] {9, 12, 0}, new int[] {3, 3, 0}, new int[] {0, 1, 0}, new int[] {12, 16, 0});
        int[] first = {0, 1, 0, 1, 0, 1, 6, 0};
        int[] last = {7, 5, 7, 5, 7, 5, 6, 7};
        for (int cell = 0; cell < 8; cell++) {
            CHECK.due("first like cell " + cell, walk.find(cell, false), first[cell]);
            CHECK.due("last like cell " + cell, walk.find(cell, true), last[cell]);
        }
        for (int cell = 0; cell < 8; cell++) {
            CHECK.due("first of all", new Raywalk().find(cell, false), 0);
            CHECK.due("last of all", new Raywalk().find(cell, true), 7);
        }
    }

    /** find(): "an ANSWER that is the SAME": 0 of SIGN 1 is LIKE that of SIGN 0, but not the SAME. */
    private static void findIsBySameNotLike() {
        Raywalk walk = withSteps(new int[] {1, 0, 2}, new int[] {0, 0, 0}, new int[] {-1, 0, 2}, new int[] {0, 0, 1},
                new int[] {0, 0, 3}, new int[] {0, 0, 2}, new int[] {-4, -4, 0}, new int[] {4, 4, 0});
        int[] first = {0, 1, 2, 3, 2, 0, 6, 7};
        int[] last = {5, 1, 4, 3, 4, 5, 6, 7};
        for (int cell = 0; cell < 8; cell++) {
            CHECK.due("first same as cell " + cell, walk.find(cell, false), first[cell]);
            CHECK.due("last same as cell " + cell, walk.find(cell, true), last[cell]);
        }
    }
}
