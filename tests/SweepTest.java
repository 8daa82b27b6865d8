/** Every step there is, in a cell and between two places, against the function of two numbers itself. */
public final class SweepTest {
    private static final Check CHECK = new Check();

    public static void main(String[] args) {
        for (int across = -127; across <= 127; across++) {
            for (int up = -127; up <= 127; up++) {
                for (int signs = 0; signs < 4; signs++) {
                    if (!isTwice(across, up, signs)) {
                        CHECK.due("digits and grades of " + Told.step(across, up, signs), told(across, up, signs), "as due");
                    }
                }
                CHECK.due("way between places by " + Told.step(across, up, 0), toldOfPlaces(across, up), "as due");
            }
        }
        CHECK.end();
    }

    /** Signs of what is not 0 change nothing. */
    private static boolean isTwice(int across, int up, int signs) {
        return across != 0 && (signs & 1) != 0 || up != 0 && (signs & 2) != 0;
    }

    private static String told(int across, int up, int signs) {
        double x = across == 0 && (signs & 1) != 0 ? -0.0 : across;
        double y = up == 0 && (signs & 2) != 0 ? -0.0 : up;
        double answer = StrictMath.atan2(y, x);
        long digits = Double.doubleToRawLongBits(answer);
        boolean isFixed = across == 0 || up == 0 || Math.abs(across) == Math.abs(up);
        Raywalk walk = new Raywalk();
        walk.put(0, across, up, signs);
        if (walk.upper(0) != (int) (digits >>> 32)) {
            return "wrong upper";
        }
        if (walk.lower(0) != (isFixed ? (int) digits : -9)) {
            return "wrong lower";
        }
        for (int count = 0; count <= 29; count++) {
            if (walk.grade(0, count) != (int) Math.floor(answer * (1 << count))) {
                return "wrong grade to " + count;
            }
        }
        return "as due";
    }

    /** The same step as the way from a place at the rim of the field to another one. */
    private static String toldOfPlaces(int across, int up) {
        if (across == 0 && up == 0) {
            return "as due";
        }
        int x = across < 0 ? 63 : -64;
        int y = up < 0 ? 63 : -64;
        double answer = StrictMath.atan2(up, across);
        Raywalk walk = new Raywalk();
        walk.addPlace(x, y);
        walk.addPlace(x + across, y + up);
        walk.takeStep(0, 0, 1);
        if (walk.across(0) != across || walk.up(0) != up || walk.signs(0) != (across < 0 ? 1 : 0) + (up < 0 ? 2 : 0)) {
            return "wrong step";
        }
        for (int count = 0; count <= 29; count++) {
            if (walk.bearing(0, 1, count) != (int) Math.floor(answer * (1 << count))) {
                return "wrong bearing to " + count;
            }
        }
        return "as due";
    }
}
