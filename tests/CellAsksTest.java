/** Promises 8 to 20: what is asked of cells. */
public final class CellAsksTest {
    private static final Check CHECK = new Check();

    public static void main(String[] args) {
        coordinatesAndSigns();
        digitsOfFixedSteps();
        digitsOfOtherSteps();
        grades();
        order();
        likeAndSame();
        side();
        eighth();
        rule();
        find();
        asksAreNoActs();
        CHECK.end();
    }

    private static Raywalk with(int across, int up, int signs) {
        Raywalk walk = new Raywalk();
        walk.put(0, across, up, signs);
        return walk;
    }

    private static void coordinatesAndSigns() {
        Raywalk walk = with(-127, 0, 2);
        CHECK.due("across", walk.across(0), -127);
        CHECK.due("up", walk.up(0), 0);
        CHECK.due("signs", walk.signs(0), 3);
        CHECK.due("signs of what is above 0", with(5, 6, 3).signs(0), 0);
        CHECK.due("across zero", with(0, 9, 1).across(0), 0);
        CHECK.noCell("across(-1)", () -> walk.across(-1));
        CHECK.noCell("across(8)", () -> walk.across(8));
        CHECK.noCell("up(-1)", () -> walk.up(-1));
        CHECK.noCell("up(8)", () -> walk.up(8));
        CHECK.noCell("signs(-1)", () -> walk.signs(-1));
        CHECK.noCell("signs(8)", () -> walk.signs(8));
        CHECK.noCell("upper(-1)", () -> walk.upper(-1));
        CHECK.noCell("upper(8)", () -> walk.upper(8));
        CHECK.noCell("lower(-1)", () -> walk.lower(-1));
        CHECK.noCell("lower(8)", () -> walk.lower(8));
    }

    private static void dueDigits(int across, int up, int signs, long exponent, long fraction) {
        Raywalk walk = with(across, up, signs);
        long sign = up < 0 || up == 0 && signs >= 2 ? 1 : 0;
        String step = "(" + across + ", " + up + ") signs " + signs;
        CHECK.due("upper of " + step, walk.upper(0), (int) (sign << 31 | exponent << 20 | fraction >> 32));
        CHECK.due("lower of " + step, walk.lower(0), (int) fraction);
    }

    private static void digitsOfFixedSteps() {
        long common = 2570638124657944L;
        for (int signs = 0; signs < 4; signs++) {
            dueDigits(7, 0, signs, 0, 0);
            dueDigits(-7, 0, signs, 1024, common);
            dueDigits(0, 9, signs, 1023, common);
            dueDigits(0, -9, signs, 1023, common);
            dueDigits(127, 127, signs, 1022, common);
            dueDigits(1, -1, signs, 1022, common);
            dueDigits(-127, 127, signs, 1024, 802078686650834L);
            dueDigits(-3, -3, signs, 1024, 802078686650834L);
        }
        dueDigits(0, 0, 0, 0, 0);
        dueDigits(0, 0, 2, 0, 0);
        dueDigits(0, 0, 1, 1024, common);
        dueDigits(0, 0, 3, 1024, common);
    }

    private static void digitsOfOtherSteps() {
        CHECK.due("lower of (1, 127)", with(1, 127, 0).lower(0), -9);
        CHECK.due("lower of (-2, 1)", with(-2, 1, 0).lower(0), -9);
        // 3fddac67 is how the number 0.4636476 (of the tangent 1/2) begins.
        CHECK.due("upper of (2, 1)", with(2, 1, 0).upper(0), 0x3fddac67);
        CHECK.due("upper of (2, -1)", with(2, -1, 0).upper(0), 0x3fddac67 | 1 << 31);
    }

    private static void grades() {
        CHECK.due("half turn", with(-1, 0, 0).grade(0, 0), 3);
        CHECK.due("minus half turn", with(-1, 0, 2).grade(0, 0), -4);
        CHECK.due("half turn, 29 digits", with(-1, 0, 0).grade(0, 29), 1686629713);
        CHECK.due("minus half turn, 29 digits", with(-1, 0, 2).grade(0, 29), -1686629714);
        CHECK.due("quarter", with(0, 1, 0).grade(0, 1), 3);
        CHECK.due("minus quarter", with(0, -1, 0).grade(0, 1), -4);
        CHECK.due("0", with(1, 0, 0).grade(0, 29), 0);
        CHECK.due("minus 0", with(1, 0, 2).grade(0, 29), 0);
        CHECK.due("a little above 0", with(127, 1, 0).grade(0, 6), 0);
        CHECK.due("a little above 1/128", with(127, 1, 0).grade(0, 7), 1);
        CHECK.due("a little below 0", with(127, -1, 0).grade(0, 0), -1);
        CHECK.due("an eighth, 29 digits", with(9, 9, 0).grade(0, 29), 421657428);
        Raywalk walk = new Raywalk();
        CHECK.noCell("grade(8, 30)", () -> walk.grade(8, 30));
        CHECK.noCell("grade(-1, 0)", () -> walk.grade(-1, 0));
        CHECK.noArgument("30 digits", () -> walk.grade(0, 30));
        CHECK.noArgument("-1 digits", () -> walk.grade(0, -1));
    }

    private static void order() {
        Raywalk walk = new Raywalk();
        int[][] ordered = {{-1, 0, 2}, {-1, -1, 0}, {0, -1, 0}, {1, 0, 2}, {1, 0, 0}, {1, 1, 0}, {0, 1, 0}, {-1, 0, 0}};
        for (int cell = 0; cell < 8; cell++) {
            walk.put(cell, ordered[cell][0], ordered[cell][1], ordered[cell][2]);
        }
        for (int one = 0; one < 8; one++) {
            for (int other = 0; other < 8; other++) {
                for (int how = 0; how < 3; how++) {
                    CHECK.due("order(" + one + ", " + other + ", " + how + ")",
                            walk.order(one, other, how), Integer.compare(one, other));
                }
            }
        }
        CHECK.noCell("order(8, 0, 3)", () -> walk.order(8, 0, 3));
        CHECK.noCell("order(0, -1, 0)", () -> walk.order(0, -1, 0));
        CHECK.noArgument("how 3", () -> walk.order(0, 0, 3));
        CHECK.noArgument("how -1", () -> walk.order(0, 0, -1));
    }

    private static void likeAndSame() {
        Raywalk walk = new Raywalk();
        walk.put(1, 0, 0, 2);
        walk.put(2, -1, 0, 0);
        walk.put(3, -1, 0, 2);
        walk.put(4, 0, 0, 0);
        walk.put(5, 3, -4, 0);
        walk.put(6, 6, -8, 0);
        CHECK.due("like: 0 and minus 0", walk.like(0, 1), true);
        CHECK.due("like: half turns", walk.like(2, 3), false);
        CHECK.due("like: one ray", walk.like(5, 6), true);
        CHECK.due("like: two rays", walk.like(0, 6), false);
        for (int how = 0; how < 2; how++) {
            CHECK.due("same: 0 and minus 0", walk.same(0, 1, how), false);
            CHECK.due("same: half turns", walk.same(2, 3, how), false);
            CHECK.due("same: null and (1, 0)", walk.same(0, 4, how), true);
            CHECK.due("same: one ray", walk.same(5, 6, how), true);
        }
        CHECK.noCell("like(0, 8)", () -> walk.like(0, 8));
        CHECK.noCell("like(-1, 0)", () -> walk.like(-1, 0));
        CHECK.noCell("same(8, 0, 2)", () -> walk.same(8, 0, 2));
        CHECK.noCell("same(0, 8, 0)", () -> walk.same(0, 8, 0));
        CHECK.noArgument("same how 2", () -> walk.same(0, 0, 2));
        CHECK.noArgument("same how -1", () -> walk.same(0, 0, -1));
    }

    private static void side() {
        Raywalk walk = new Raywalk();
        walk.put(1, 1, 1, 0);
        walk.put(2, -1, -1, 0);
        walk.put(3, 0, 0, 1);
        walk.put(4, -1, 0, 2);
        CHECK.due("left", walk.side(0, 1), 1);
        CHECK.due("right", walk.side(1, 0), -1);
        CHECK.due("over the half turn", walk.side(1, 2), 0);
        CHECK.due("left over the half turn", walk.side(1, 4), 1);
        CHECK.due("opposite", walk.side(0, 4), 0);
        CHECK.due("null second", walk.side(0, 3), -9);
        CHECK.due("null first", walk.side(3, 0), -9);
        CHECK.due("refusals", walk.house(2), 0);
        CHECK.noCell("side(8, 0)", () -> walk.side(8, 0));
        CHECK.noCell("side(3, -1)", () -> walk.side(3, -1));
    }

    private static void eighth() {
        int[][] steps = {{-1, 0, 2, 0}, {-2, -1, 0, 0}, {-1, -1, 0, 1}, {-1, -2, 0, 1}, {0, -1, 0, 2}, {1, -2, 0, 2},
            {1, -1, 0, 3}, {1, 0, 2, 3}, {0, 0, 2, 3}, {1, 0, 0, 4}, {2, 1, 0, 4}, {1, 1, 0, 5}, {0, 1, 0, 6},
            {-1, 2, 0, 6}, {-1, 1, 0, 7}, {-2, 1, 0, 7}, {-1, 0, 0, 8}, {0, 0, 1, 8}, {0, 0, 3, 0}};
        for (int[] step : steps) {
            CHECK.due("eighth of (" + step[0] + ", " + step[1] + ") signs " + step[2],
                    with(step[0], step[1], step[2]).eighth(0), step[3]);
        }
        CHECK.noCell("eighth(8)", () -> new Raywalk().eighth(8));
        CHECK.noCell("eighth(-1)", () -> new Raywalk().eighth(-1));
    }

    private static void rule() {
        for (int which = 0; which < 8; which++) {
            CHECK.due("rule " + which, with(97, -50, 0).rule(0, which), 1);
            CHECK.due("rule " + which + " of a null step", with(0, 0, 1).rule(0, which), which >= 2 && which <= 5 ? -9 : 1);
        }
        Raywalk walk = new Raywalk();
        CHECK.noCell("rule(8, 9)", () -> walk.rule(8, 9));
        CHECK.noCell("rule(-1, 0)", () -> walk.rule(-1, 0));
        CHECK.noArgument("rule(0, 8)", () -> walk.rule(0, 8));
        CHECK.noArgument("rule(0, -1)", () -> walk.rule(0, -1));
    }

    private static void find() {
        Raywalk walk = new Raywalk();
        walk.put(2, 3, 4, 0);
        walk.put(5, 6, 8, 0);
        walk.put(3, 0, 0, 0);
        walk.put(7, 1, 0, 2);
        CHECK.due("first", walk.find(5, false), 2);
        CHECK.due("last", walk.find(2, true), 5);
        CHECK.due("first of 0", walk.find(6, false), 0);
        CHECK.due("last of 0", walk.find(3, true), 6);
        CHECK.due("sole, first", walk.find(7, false), 7);
        CHECK.due("sole, last", walk.find(7, true), 7);
        CHECK.noCell("find(8, ..)", () -> walk.find(8, false));
        CHECK.noCell("find(-1, ..)", () -> walk.find(-1, true));
    }

    private static void asksAreNoActs() {
        Raywalk walk = with(0, 0, 1);
        walk.rule(0, 2);
        walk.side(0, 1);
        walk.grade(0, 3);
        CHECK.due("acts", walk.house(0), 1);
        CHECK.due("refusals", walk.house(2), 0);
    }
}
