import java.util.ArrayList;
import java.util.List;

/** The document once more, by other means: numbers with two zeros, the library's angles, and plain search. */
final class Model {
    private static final double NEAR = 1e-9;

    final double[] across = {1, 1, 1, 1, 1, 1, 1, 1};
    final double[] up = new double[8];
    final List<int[]> places = new ArrayList<>();
    int centreX;
    int centreY;
    final int[] house = new int[4];

    // acts

    int put(int cell, int x, int y, int signs) {
        index(cell, 8);
        argument(x >= -127 && x <= 127 && y >= -127 && y <= 127 && signs >= 0 && signs <= 3);
        return come(cell, x == 0 && (signs & 1) != 0 ? -0.0 : x, y == 0 && (signs & 2) != 0 ? -0.0 : y);
    }

    int make(int cell, int which) {
        index(cell, 8);
        argument(which >= 0 && which <= 5);
        double a = across[cell];
        double u = up[cell];
        switch (which) {
            case 0: return come(cell, a, -u);
            case 1: return come(cell, -a, u);
            case 2: return come(cell, -u, a);
            case 3: return come(cell, u, -a);
            case 4: return come(cell, u, a);
            default: return come(cell, -a, -u);
        }
    }

    int stretch(int cell, int by) {
        index(cell, 8);
        argument(by >= 1 && by <= 127);
        return comeOrRefuse(cell, across[cell] * by, up[cell] * by);
    }

    int addSteps(int one, int other, int into) {
        index(one, 8);
        index(other, 8);
        index(into, 8);
        return comeOrRefuse(into, across[one] + across[other], up[one] + up[other]);
    }

    int takeStep(int cell, int from, int to) {
        index(cell, 8);
        index(from, places.size());
        index(to, places.size());
        return come(cell, places.get(to)[0] - places.get(from)[0], places.get(to)[1] - places.get(from)[1]);
    }

    int sortSteps(boolean isDown) {
        List<double[]> steps = new ArrayList<>();
        for (int cell = 0; cell < 8; cell++) {
            steps.add(new double[] {across[cell], up[cell]});
        }
        steps.sort((one, other) -> {
            int order = Double.compare(StrictMath.atan2(one[1], one[0]), StrictMath.atan2(other[1], other[0]));
            return isDown ? -order : order;
        });
        int changed = 0;
        for (int cell = 0; cell < 8; cell++) {
            double[] step = steps.get(cell);
            if (Double.compare(step[0], across[cell]) != 0 || Double.compare(step[1], up[cell]) != 0) {
                changed++;
            }
            across[cell] = step[0];
            up[cell] = step[1];
        }
        house[0]++;
        return changed;
    }

    private int comeOrRefuse(int cell, double x, double y) {
        if (Math.abs(x) > 127 || Math.abs(y) > 127) {
            house[2]++;
            return -9;
        }
        return come(cell, x, y);
    }

    private int come(int cell, double x, double y) {
        int move = Double.compare(StrictMath.atan2(y, x), answer(cell));
        across[cell] = x;
        up[cell] = y;
        house[0]++;
        return move;
    }

    int addPlace(int x, int y) {
        spot(x, y);
        if (places.size() == 12 || numberAt(x, y) >= 0) {
            house[2]++;
            return -9;
        }
        places.add(new int[] {x, y});
        house[1]++;
        return places.size() - 1;
    }

    int removePlace(int number) {
        index(number, places.size());
        places.remove(number);
        house[1]++;
        return places.size();
    }

    int movePlace(int number, int x, int y) {
        index(number, places.size());
        spot(x, y);
        int there = numberAt(x, y);
        if (there >= 0 && there != number) {
            house[2]++;
            return -9;
        }
        places.set(number, new int[] {x, y});
        house[1]++;
        return there == number ? 0 : 1;
    }

    int centre(int x, int y) {
        spot(x, y);
        int moved = x == centreX && y == centreY ? 0 : 1;
        centreX = x;
        centreY = y;
        house[1]++;
        return moved;
    }

    int turnPlaces() {
        for (int[] place : places) {
            int oldX = place[0];
            place[0] = -1 - place[1];
            place[1] = oldX;
        }
        int oldX = centreX;
        centreX = -1 - centreY;
        centreY = oldX;
        house[1]++;
        return hullArea();
    }

    int mirrorPlaces() {
        for (int[] place : places) {
            place[0] = -1 - place[0];
        }
        centreX = -1 - centreX;
        house[1]++;
        return hullArea();
    }

    // what is asked of cells

    double answer(int cell) {
        return StrictMath.atan2(up[cell], across[cell]);
    }

    int signs(int cell) {
        index(cell, 8);
        return (1 / across[cell] < 0 ? 1 : 0) + (1 / up[cell] < 0 ? 2 : 0);
    }

    int upper(int cell) {
        index(cell, 8);
        return (int) (Double.doubleToRawLongBits(answer(cell)) >>> 32);
    }

    int lower(int cell) {
        index(cell, 8);
        boolean isFixed = across[cell] == 0 || up[cell] == 0 || Math.abs(across[cell]) == Math.abs(up[cell]);
        return isFixed ? (int) Double.doubleToRawLongBits(answer(cell)) : -9;
    }

    int grade(int cell, int digits) {
        index(cell, 8);
        argument(digits >= 0 && digits <= 29);
        return (int) Math.floor(answer(cell) * (1 << digits));
    }

    int order(int one, int other, int how) {
        index(one, 8);
        index(other, 8);
        argument(how >= 0 && how <= 2);
        return Double.compare(answer(one), answer(other));
    }

    boolean like(int one, int other) {
        index(one, 8);
        index(other, 8);
        return answer(one) == answer(other);
    }

    boolean same(int one, int other, int how) {
        index(one, 8);
        index(other, 8);
        argument(how == 0 || how == 1);
        return Double.compare(answer(one), answer(other)) == 0;
    }

    int side(int one, int other) {
        index(one, 8);
        index(other, 8);
        if (isNull(one) || isNull(other)) {
            return -9;
        }
        return (int) Math.signum(across[one] * up[other] - up[one] * across[other]);
    }

    boolean isNull(int cell) {
        return across[cell] == 0 && up[cell] == 0;
    }

    int eighth(int cell) {
        index(cell, 8);
        int reached = 0;
        for (int mark = -3; mark <= 4; mark++) {
            double angle = StrictMath.atan2(Math.signum(mark % 4) + 0.0, mark == 4 ? -1 : new int[] {1, 1, 0, -1}[Math.abs(mark)]);
            reached += Double.compare(answer(cell), angle) < 0 ? 0 : 1;
        }
        return reached;
    }

    int rule(int cell, int which) {
        index(cell, 8);
        argument(which >= 0 && which <= 7);
        return isNull(cell) && which >= 2 && which <= 5 ? -9 : 1;
    }

    int find(int cell, boolean isLast) {
        index(cell, 8);
        int found = -1;
        for (int at = 0; at < 8; at++) {
            if (Double.compare(answer(at), answer(cell)) == 0 && (isLast || found < 0)) {
                found = at;
            }
        }
        return found;
    }

    // what is asked of places

    int bearing(int from, int to, int digits) {
        index(from, places.size());
        index(to, places.size());
        argument(digits >= 0 && digits <= 29);
        return from == to ? -9 : (int) Math.floor(angle(from, to) * (1 << digits));
    }

    int bearingOrder(int from, int one, int other) {
        index(from, places.size());
        index(one, places.size());
        index(other, places.size());
        return one == from || other == from ? -9 : Double.compare(angle(from, one), angle(from, other));
    }

    int left(int from, int to, int third) {
        index(from, places.size());
        index(to, places.size());
        index(third, places.size());
        return to == from || third == from ? -9
                : Integer.signum(cross(places.get(from), places.get(to), places.get(third)));
    }

    private double angle(int from, int to) {
        return StrictMath.atan2(places.get(to)[1] - places.get(from)[1], places.get(to)[0] - places.get(from)[0]);
    }

    private double angleFromCentre(int[] place) {
        return StrictMath.atan2(place[1] - centreY, place[0] - centreX);
    }

    private static int cross(int[] from, int[] to, int[] third) {
        return (to[0] - from[0]) * (third[1] - from[1]) - (to[1] - from[1]) * (third[0] - from[0]);
    }

    List<Integer> round() {
        List<Integer> round = new ArrayList<>();
        for (int number = 0; number < places.size(); number++) {
            if (places.get(number)[0] != centreX || places.get(number)[1] != centreY) {
                round.add(number);
            }
        }
        round.sort((one, other) -> {
            int order = Double.compare(angleFromCentre(places.get(one)), angleFromCentre(places.get(other)));
            return order != 0 ? order : Double.compare(fromCentre(one), fromCentre(other));
        });
        return round;
    }

    private double fromCentre(int number) {
        return Math.hypot(places.get(number)[0] - centreX, places.get(number)[1] - centreY);
    }

    boolean isStar() {
        List<Integer> round = round();
        boolean hasTwoRays = false;
        for (int at = 0; at < round.size(); at++) {
            double one = angleFromCentre(places.get(round.get(at)));
            double next = angleFromCentre(places.get(round.get((at + 1) % round.size())));
            double gap = next >= one ? next - one : next - one + 2 * Math.PI;
            if (gap > Math.PI - NEAR) {
                return false;
            }
            hasTwoRays |= gap > NEAR;
        }
        return hasTwoRays;
    }

    int starArea() {
        List<Integer> round = round();
        int[] centre = {centreX, centreY};
        int area = 0;
        for (int at = 0; at < round.size(); at++) {
            area += cross(centre, places.get(round.get(at)), places.get(round.get((at + 1) % round.size())));
        }
        return area;
    }

    /** A place is no corner if it lies between two others or in the triangle of three others. */
    private boolean isCorner(int number) {
        int[] place = places.get(number);
        for (int[] a : places) {
            for (int[] b : places) {
                for (int[] c : places) {
                    if (a != place && b != place && c != place && isWithin(place, a, b, c)) {
                        return false;
                    }
                }
            }
        }
        return true;
    }

    private static boolean isWithin(int[] place, int[] a, int[] b, int[] c) {
        if (cross(a, b, c) == 0) {
            return isBetween(place, a, b) || isBetween(place, b, c) || isBetween(place, a, c);
        }
        int ab = Integer.signum(cross(a, b, place));
        int bc = Integer.signum(cross(b, c, place));
        int ca = Integer.signum(cross(c, a, place));
        return ab >= 0 && bc >= 0 && ca >= 0 || ab <= 0 && bc <= 0 && ca <= 0;
    }

    private static boolean isBetween(int[] place, int[] a, int[] b) {
        return cross(a, b, place) == 0
                && Math.min(a[0], b[0]) <= place[0] && place[0] <= Math.max(a[0], b[0])
                && Math.min(a[1], b[1]) <= place[1] && place[1] <= Math.max(a[1], b[1]);
    }

    List<Integer> hull() {
        List<Integer> corners = new ArrayList<>();
        for (int number = 0; number < places.size(); number++) {
            if (isCorner(number)) {
                corners.add(number);
            }
        }
        if (corners.isEmpty()) {
            return corners;
        }
        int first = corners.get(0);
        for (int corner : corners) {
            int higher = Integer.compare(places.get(corner)[1], places.get(first)[1]);
            if (higher < 0 || higher == 0 && places.get(corner)[0] < places.get(first)[0]) {
                first = corner;
            }
        }
        int begin = first;
        corners.sort((one, other) -> Double.compare(
                one == begin ? -1 : angle(begin, one), other == begin ? -1 : angle(begin, other)));
        return corners;
    }

    int hullArea() {
        List<Integer> hull = hull();
        int area = 0;
        for (int at = 0; at < hull.size(); at++) {
            area += cross(places.get(hull.get(0)), places.get(hull.get(at)), places.get(hull.get((at + 1) % hull.size())));
        }
        return area;
    }

    /** The sum of the angles under which the legs are seen, in whole turns. */
    int rounds() {
        int[] centre = {centreX, centreY};
        double turned = 0;
        for (int at = 0; at < places.size(); at++) {
            int[] begin = places.get(at);
            int[] end = places.get((at + 1) % places.size());
            if (isBetween(centre, begin, end)) {
                return -9;
            }
            double seen = angleFromCentre(end) - angleFromCentre(begin);
            turned += seen > Math.PI ? seen - 2 * Math.PI : seen < -Math.PI ? seen + 2 * Math.PI : seen;
        }
        return (int) Math.round(turned / (2 * Math.PI));
    }

    static String text(List<Integer> numbers) {
        StringBuilder text = new StringBuilder();
        for (int number : numbers) {
            text.append(text.length() == 0 ? "" : " ").append(number);
        }
        return text.toString();
    }

    long digest() {
        List<Integer> told = new ArrayList<>();
        for (int cell = 0; cell < 8; cell++) {
            told.addAll(List.of((int) across[cell], (int) up[cell], signs(cell), upper(cell), lower(cell),
                    grade(cell, 29), eighth(cell), find(cell, false)));
        }
        for (int one = 0; one < 8; one++) {
            for (int other = one + 1; other < 8; other++) {
                told.addAll(List.of(order(one, other, 0), like(one, other) ? 1 : 0, side(one, other)));
            }
        }
        told.add(places.size());
        for (int[] place : places) {
            told.addAll(List.of(place[0], place[1]));
        }
        told.addAll(List.of(centreX, centreY, round().size()));
        told.addAll(round());
        told.addAll(List.of(isStar() ? 1 : 0, starArea(), hull().size()));
        told.addAll(hull());
        told.addAll(List.of(hullArea(), rounds(), house[0], house[1], house[2], house[3], 1));
        long digest = 7682;
        for (int value : told) {
            digest = digest * 31 + value;
        }
        return digest;
    }

    private int numberAt(int x, int y) {
        for (int number = 0; number < places.size(); number++) {
            if (places.get(number)[0] == x && places.get(number)[1] == y) {
                return number;
            }
        }
        return -1;
    }

    private static void index(int index, int count) {
        if (index < 0 || index >= count) {
            throw new IndexOutOfBoundsException();
        }
    }

    private static void argument(boolean isRight) {
        if (!isRight) {
            throw new IllegalArgumentException();
        }
    }

    private static void spot(int x, int y) {
        argument(x >= -64 && x <= 63 && y >= -64 && y <= 63);
    }
}
