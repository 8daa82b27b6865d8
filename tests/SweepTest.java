import java.util.ArrayList;
import java.util.Comparator;
import java.util.List;
import java.util.Map;
import java.util.TreeMap;

/** Every step there is, in a cell and between two places, against the function of two numbers itself. */
public final class SweepTest {
    private static final Check CHECK = new Check();
    private static final Comparator<int[]> BY_LENGTH =
            Comparator.comparingInt(step -> step[0] * step[0] + step[1] * step[1]);

    public static void main(String[] args) {
        for (int across = -127; across <= 127; across++) {
            for (int up = -127; up <= 127; up++) {
                for (int signs = 0; signs < 4; signs++) {
                    if (!isTwice(across, up, signs)) {
                        CHECK.due("digits and grades of " + Told.step(across, up, signs), told(across, up, signs), "as due");
                    }
                }
                CHECK.due("way between places by " + Told.step(across, up, 0), toldOfPlaces(across, up), "as due");
            }
        }
        eachRayAndTheNext();
        CHECK.end();
    }

    /** Signs of what is not 0 change nothing. */
    private static boolean isTwice(int across, int up, int signs) {
        return across != 0 && (signs & 1) != 0 || up != 0 && (signs & 2) != 0;
    }

    private static double answer(int across, int up, int signs) {
        double x = across == 0 && (signs & 1) != 0 ? -0.0 : across;
        double y = up == 0 && (signs & 2) != 0 ? -0.0 : up;
        return StrictMath.atan2(y, x);
    }

    private static int eighth(double answer) {
        int[][] marks = {{-1, -1}, {0, -1}, {1, -1}, {1, 0}, {1, 1}, {0, 1}, {-1, 1}, {-1, 0}};
        int reached = 0;
        for (int[] mark : marks) {
            reached += Double.compare(answer, answer(mark[0], mark[1], 0)) >= 0 ? 1 : 0;
        }
        return reached;
    }

    private static String told(int across, int up, int signs) {
        double answer = answer(across, up, signs);
        long digits = Double.doubleToRawLongBits(answer);
        boolean isFixed = across == 0 || up == 0 || Math.abs(across) == Math.abs(up);
        Raywalk walk = new Raywalk();
        walk.put(0, across, up, signs);
        if (walk.upper(0) != (int) (digits >>> 32)) {
            return "wrong upper";
        }
        if (walk.lower(0) != (isFixed ? (int) digits : -9)) {
            return "wrong lower";
        }
        if (walk.eighth(0) != eighth(answer)) {
            return "wrong eighth";
        }
        for (int count = 0; count <= 29; count++) {
            if (walk.grade(0, count) != (int) Math.floor(answer * (1 << count))) {
                return "wrong grade to " + count;
            }
        }
        return "as due";
    }

    /** The same step as the way from a place at the rim of the field to another one. */
    private static String toldOfPlaces(int across, int up) {
        if (across == 0 && up == 0) {
            return "as due";
        }
        int x = across < 0 ? 63 : -64;
        int y = up < 0 ? 63 : -64;
        double answer = StrictMath.atan2(up, across);
        Raywalk walk = new Raywalk();
        walk.addPlace(x, y);
        walk.addPlace(x + across, y + up);
        walk.takeStep(0, 0, 1);
        if (walk.across(0) != across || walk.up(0) != up || walk.signs(0) != (across < 0 ? 1 : 0) + (up < 0 ? 2 : 0)) {
            return "wrong step";
        }
        for (int count = 0; count <= 29; count++) {
            if (walk.bearing(0, 1, count) != (int) Math.floor(answer * (1 << count))) {
                return "wrong bearing to " + count;
            }
        }
        return "as due";
    }

    /**
     * "just if their STEPS are on one RAY" and "This is how ANSWERS follow as numbers": all steps gathered by their
     * answers, the shortest and the longest step of each ray, and of each next one.
     */
    private static void eachRayAndTheNext() {
        Map<Double, List<int[]>> rays = new TreeMap<>();
        for (int across = -127; across <= 127; across++) {
            for (int up = -127; up <= 127; up++) {
                for (int signs = 0; signs < 4; signs++) {
                    if (!isTwice(across, up, signs)) {
                        rays.computeIfAbsent(answer(across, up, signs), key -> new ArrayList<>()).add(new int[] {across, up, signs});
                    }
                }
            }
        }
        int[] before = null;
        for (List<int[]> ray : rays.values()) {
            ray.sort(BY_LENGTH);
            int[] longest = ray.get(ray.size() - 1);
            if (before != null) {
                duePair(before, ray.get(0), -1);
            }
            duePair(ray.get(0), longest, 0);
            before = longest;
        }
    }

    private static void duePair(int[] one, int[] other, int order) {
        Raywalk walk = new Raywalk();
        walk.put(6, one[0], one[1], one[2]);
        String pair = Told.step(one[0], one[1], one[2]) + " and " + Told.step(other[0], other[1], other[2]);
        walk.put(7, one[0], one[1], one[2]);
        CHECK.due("move by " + pair, walk.put(7, other[0], other[1], other[2]), -order);
        CHECK.due("order of " + pair, walk.order(6, 7, 0), order);
        CHECK.due("order back of " + pair, walk.order(7, 6, 0), -order);
        CHECK.due("same of " + pair, walk.same(6, 7, 0), order == 0);
        CHECK.due("sound with " + pair, walk.isSound(), true);
    }
}
