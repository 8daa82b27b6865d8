/** Eight steps, the angles at which they go, and a field of places: DOC.md promises what each call answers. */
public final class Raywalk {
    private static final int CELLS = 8;
    private static final int CANNOT = -9;
    private static final int MOST_COORDINATE = 127;
    private static final int LEAST_SPOT = -64;
    private static final int MOST_SPOT = 63;
    private static final int MOST_DIGITS = 29;
    private static final long FIRST_DIGEST = 7682;

    /** Across and up of the eight MARKS, in their ORDER. */
    private static final int[] MARKS = {-1, -1, 0, -1, 1, -1, 1, 0, 1, 1, 0, 1, -1, 1, -1, 0};

    private final Step[] cells = new Step[CELLS];
    /** Rows and steps that calls use again, so that no call has to make any. */
    private final Step[] cellsBefore = new Step[CELLS];
    private final long[] angles = new long[CELLS];
    private final Step comer = new Step();
    private final Step helper = new Step();
    private final Field field = new Field();

    private int cellActs;
    private int placeActs;
    private int refusals;
    private int knocks;

    public Raywalk() {
        for (int cell = 0; cell < CELLS; cell++) {
            cells[cell] = new Step();
        }
    }

    // cells: acts

    public int put(int cell, int across, int up, int signs) throws IndexOutOfBoundsException, IllegalArgumentException {
        checkCell(cell);
        checkBetween(across, -MOST_COORDINATE, MOST_COORDINATE);
        checkBetween(up, -MOST_COORDINATE, MOST_COORDINATE);
        checkBetween(signs, 0, 3);
        comer.become(across, up, signs);
        return comeTo(cell);
    }

    public int make(int cell, int which) throws IndexOutOfBoundsException, IllegalArgumentException {
        checkCell(cell);
        checkBetween(which, 0, 5);
        comer.becomeByRule(cells[cell], which);
        return comeTo(cell);
    }

    public int stretch(int cell, int by) throws IndexOutOfBoundsException, IllegalArgumentException {
        checkCell(cell);
        checkBetween(by, 1, MOST_COORDINATE);
        Step step = cells[cell];
        return comeOrRefuse(cell, step.across * by, step.up * by, step.signs);
    }

    public int addSteps(int one, int other, int into) throws IndexOutOfBoundsException {
        checkCell(one);
        checkCell(other);
        checkCell(into);
        Step first = cells[one];
        Step second = cells[other];
        return comeOrRefuse(into, first.across + second.across, first.up + second.up, first.signs & second.signs);
    }

    public int takeStep(int cell, int from, int to) throws IndexOutOfBoundsException {
        checkCell(cell);
        checkPlace(from);
        checkPlace(to);
        field.stepBetween(comer, from, to);
        return comeTo(cell);
    }

    public int sortSteps(boolean isDown) {
        for (int cell = 0; cell < CELLS; cell++) {
            cellsBefore[cell] = cells[cell];
        }
        for (int cell = 1; cell < CELLS; cell++) {
            sinkIntoSorted(cell, isDown);
        }
        int changed = 0;
        for (int cell = 0; cell < CELLS; cell++) {
            if (!cells[cell].isTwinOf(cellsBefore[cell])) {
                changed++;
            }
        }
        cellActs++;
        return changed;
    }

    /** Cells before this one are in order already; equal ones are never passed, so they stay as they were. */
    private void sinkIntoSorted(int cell, boolean isDown) {
        Step sinking = cells[cell];
        int wanted = isDown ? 1 : -1;
        int at = cell;
        while (at > 0 && sinking.orderTo(cells[at - 1]) == wanted) {
            cells[at] = cells[at - 1];
            at--;
        }
        cells[at] = sinking;
    }

    private int comeOrRefuse(int cell, int across, int up, int signs) {
        if (!isCoordinate(across) || !isCoordinate(up)) {
            return refuse();
        }
        comer.become(across, up, signs);
        return comeTo(cell);
    }

    private int comeTo(int cell) {
        int move = comer.orderTo(cells[cell]);
        cells[cell].become(comer.across, comer.up, comer.signs);
        cellActs++;
        return move;
    }

    private int refuse() {
        refusals++;
        return CANNOT;
    }

    // cells: what is asked

    public int across(int cell) throws IndexOutOfBoundsException {
        checkCell(cell);
        return cells[cell].across;
    }

    public int up(int cell) throws IndexOutOfBoundsException {
        checkCell(cell);
        return cells[cell].up;
    }

    public int signs(int cell) throws IndexOutOfBoundsException {
        checkCell(cell);
        return cells[cell].signs;
    }

    public int upper(int cell) throws IndexOutOfBoundsException {
        checkCell(cell);
        return cells[cell].firstDigits(cells[cell].angle());
    }

    public int lower(int cell) throws IndexOutOfBoundsException {
        checkCell(cell);
        return cells[cell].isFixed() ? cells[cell].lastDigits() : CANNOT;
    }

    public int grade(int cell, int digits) throws IndexOutOfBoundsException, IllegalArgumentException {
        checkCell(cell);
        checkBetween(digits, 0, MOST_DIGITS);
        return Angle.roundDown(cells[cell].angle(), digits);
    }

    public int order(int one, int other, int how) throws IndexOutOfBoundsException, IllegalArgumentException {
        checkCell(one);
        checkCell(other);
        checkBetween(how, 0, 2);
        return cells[one].orderTo(cells[other]);
    }

    public boolean like(int one, int other) throws IndexOutOfBoundsException {
        checkCell(one);
        checkCell(other);
        return cells[one].orderTo(cells[other]) == 0 || cells[one].isOfNoSize() && cells[other].isOfNoSize();
    }

    public boolean same(int one, int other, int how) throws IndexOutOfBoundsException, IllegalArgumentException {
        checkCell(one);
        checkCell(other);
        checkBetween(how, 0, 1);
        return cells[one].orderTo(cells[other]) == 0;
    }

    public int side(int one, int other) throws IndexOutOfBoundsException {
        checkCell(one);
        checkCell(other);
        return cells[one].isNull() || cells[other].isNull() ? CANNOT : cells[one].sideOf(cells[other]);
    }

    public int eighth(int cell) throws IndexOutOfBoundsException {
        checkCell(cell);
        int reached = 0;
        for (int at = 0; at + 1 < MARKS.length; at += 2) {
            helper.become(MARKS[at], MARKS[at + 1], 0);
            if (cells[cell].orderTo(helper) != -1) {
                reached++;
            }
        }
        return reached;
    }

    public int rule(int cell, int which) throws IndexOutOfBoundsException, IllegalArgumentException {
        checkCell(cell);
        checkBetween(which, 0, 7);
        boolean asksForNoNull = which >= 2 && which <= 5;
        // The document grants the RULES; the last digits, on which they turn, are not told for most steps.
        return asksForNoNull && cells[cell].isNull() ? CANNOT : 1;
    }

    public int find(int cell, boolean isLast) throws IndexOutOfBoundsException {
        checkCell(cell);
        for (int passed = 0; passed < CELLS; passed++) {
            int candidate = isLast ? CELLS - 1 - passed : passed;
            if (cells[candidate].orderTo(cells[cell]) == 0) {
                return candidate;
            }
        }
        return cell;
    }

    // places: acts

    public int addPlace(int x, int y) throws IllegalArgumentException {
        checkSpot(x, y);
        if (field.count == Field.MOST || field.numberAt(x, y) >= 0) {
            return refuse();
        }
        placeActs++;
        return field.add(x, y);
    }

    public int removePlace(int number) throws IndexOutOfBoundsException {
        checkPlace(number);
        field.drop(number);
        placeActs++;
        return field.count;
    }

    public int movePlace(int number, int x, int y) throws IndexOutOfBoundsException, IllegalArgumentException {
        checkPlace(number);
        checkSpot(x, y);
        int there = field.numberAt(x, y);
        if (there >= 0 && there != number) {
            return refuse();
        }
        placeActs++;
        return field.moveTo(number, x, y) ? 1 : 0;
    }

    public int centre(int x, int y) throws IllegalArgumentException {
        checkSpot(x, y);
        placeActs++;
        return field.moveTo(Field.CENTRE, x, y) ? 1 : 0;
    }

    public int turnPlaces() {
        field.turnAll();
        placeActs++;
        return field.areaOfHull();
    }

    public int mirrorPlaces() {
        field.mirrorAll();
        placeActs++;
        return field.areaOfHull();
    }

    // places: what is asked

    public int places() {
        return field.count;
    }

    public int place(int number, boolean isY) throws IndexOutOfBoundsException {
        checkPlace(number);
        return isY ? field.y[number] : field.x[number];
    }

    public int centreAt(boolean isY) {
        return isY ? field.y[Field.CENTRE] : field.x[Field.CENTRE];
    }

    public int bearing(int from, int to, int digits) throws IndexOutOfBoundsException, IllegalArgumentException {
        checkPlace(from);
        checkPlace(to);
        checkBetween(digits, 0, MOST_DIGITS);
        if (from == to) {
            return CANNOT;
        }
        field.stepBetween(helper, from, to);
        return Angle.roundDown(helper.angle(), digits);
    }

    public int bearingOrder(int from, int one, int other) throws IndexOutOfBoundsException {
        checkPlace(from);
        checkPlace(one);
        checkPlace(other);
        if (one == from || other == from) {
            return CANNOT;
        }
        return field.orderFrom(from, one, other);
    }

    public int left(int from, int to, int third) throws IndexOutOfBoundsException {
        checkPlace(from);
        checkPlace(to);
        checkPlace(third);
        if (to == from || third == from) {
            return CANNOT;
        }
        return signOf(field.cross(from, to, third));
    }

    public int roundCount() {
        return field.roundCount;
    }

    public String roundText() {
        return textOf(field.round, field.roundCount);
    }

    public boolean isStar() {
        return field.isRoundStar();
    }

    public int starArea() {
        return field.areaOfStar();
    }

    public int hullCount() {
        return field.hullCount;
    }

    public String hullText() {
        return textOf(field.hull, field.hullCount);
    }

    public int hullArea() {
        return field.areaOfHull();
    }

    public int rounds() {
        return field.isCentreOnWalk() ? CANNOT : field.windings();
    }

    private static String textOf(int[] row, int count) {
        StringBuilder text = new StringBuilder();
        for (int at = 0; at < count; at++) {
            if (at > 0) {
                text.append(' ');
            }
            text.append(row[at]);
        }
        return text.toString();
    }

    // the whole

    public int house(int what) throws IllegalArgumentException {
        checkBetween(what, 0, 3);
        switch (what) {
            case 0:
                return cellActs;
            case 1:
                return placeActs;
            case 2:
                return refusals;
            default:
                return knocks;
        }
    }

    public int knock() {
        knocks++;
        return knocks;
    }

    public boolean isSound() {
        // The RULES are granted (see rule); all else is looked at.
        return areAnglesSound() && field.isRoundSound() && field.isHullSound() && field.isStarSound();
    }

    private boolean areAnglesSound() {
        for (int cell = 0; cell < CELLS; cell++) {
            angles[cell] = cells[cell].angle();
        }
        for (int one = 0; one < CELLS; one++) {
            for (int other = one + 1; other < CELLS; other++) {
                if (!isPairSound(one, other)) {
                    return false;
                }
            }
        }
        return true;
    }

    private boolean isPairSound(int one, int other) {
        Step first = cells[one];
        Step second = cells[other];
        int byDigits = Angle.compareDigits(first.firstDigits(angles[one]), second.firstDigits(angles[other]));
        if (byDigits != first.orderTo(second)) {
            return false;
        }
        return first.isNull() || second.isNull()
                || Angle.sideBetween(angles[one], angles[other]) == first.sideOf(second);
    }

    public long digest() {
        long digest = FIRST_DIGEST;
        for (int cell = 0; cell < CELLS; cell++) {
            digest = withCell(digest, cell);
        }
        for (int one = 0; one < CELLS; one++) {
            for (int other = one + 1; other < CELLS; other++) {
                digest = with(digest, order(one, other, 0));
                digest = with(digest, like(one, other) ? 1 : 0);
                digest = with(digest, side(one, other));
            }
        }
        digest = withField(digest);
        for (int what = 0; what <= 3; what++) {
            digest = with(digest, house(what));
        }
        return with(digest, isSound() ? 1 : 0);
    }

    private long withCell(long before, int cell) {
        long digest = with(before, across(cell));
        digest = with(digest, up(cell));
        digest = with(digest, signs(cell));
        digest = with(digest, upper(cell));
        digest = with(digest, lower(cell));
        digest = with(digest, grade(cell, MOST_DIGITS));
        digest = with(digest, eighth(cell));
        return with(digest, find(cell, false));
    }

    private long withField(long before) {
        long digest = with(before, field.count);
        for (int number = 0; number < field.count; number++) {
            digest = with(digest, field.x[number]);
            digest = with(digest, field.y[number]);
        }
        digest = with(digest, centreAt(false));
        digest = with(digest, centreAt(true));
        digest = withRow(digest, field.round, field.roundCount);
        digest = with(digest, isStar() ? 1 : 0);
        digest = with(digest, starArea());
        digest = withRow(digest, field.hull, field.hullCount);
        digest = with(digest, hullArea());
        return with(digest, rounds());
    }

    private static long withRow(long before, int[] row, int count) {
        long digest = with(before, count);
        for (int at = 0; at < count; at++) {
            digest = with(digest, row[at]);
        }
        return digest;
    }

    private static long with(long digest, long value) {
        return digest * 31 + value;
    }

    // what callers may ask

    private static void checkCell(int cell) {
        if (cell < 0 || cell >= CELLS) {
            throw new IndexOutOfBoundsException("no such cell");
        }
    }

    private void checkPlace(int number) {
        if (number < 0 || number >= field.count) {
            throw new IndexOutOfBoundsException("no such place");
        }
    }

    private static void checkSpot(int x, int y) {
        checkBetween(x, LEAST_SPOT, MOST_SPOT);
        checkBetween(y, LEAST_SPOT, MOST_SPOT);
    }

    private static void checkBetween(int value, int least, int most) {
        if (value < least || value > most) {
            throw new IllegalArgumentException("out of its range");
        }
    }

    private static boolean isCoordinate(int value) {
        return value >= -MOST_COORDINATE && value <= MOST_COORDINATE;
    }

    private static int signOf(long value) {
        return value > 0 ? 1 : value < 0 ? -1 : 0;
    }

    /** A STEP; at first (1, 0), both SIGNS 0. */
    private static final class Step {
        private static final int ACROSS_SIGN = 1;
        private static final int UP_SIGN = 2;
        private static final int BOTH_SIGNS = 3;

        int across = 1;
        int up;
        /** The SIGNS of what is not 0 stand here, too. */
        int signs;
        /** The LOOK's ACROSS; the LOOK's UP is up itself, of a NULL STEP, too. */
        int lookAcross = 1;

        /** Of zeroSigns only those of ZEROS count. */
        void become(int newAcross, int newUp, int zeroSigns) {
            across = newAcross;
            up = newUp;
            signs = (newAcross == 0 ? zeroSigns & ACROSS_SIGN : newAcross < 0 ? ACROSS_SIGN : 0)
                    | (newUp == 0 ? zeroSigns & UP_SIGN : newUp < 0 ? UP_SIGN : 0);
            lookAcross = newAcross;
            if (newAcross == 0 && newUp == 0) {
                lookAcross = (signs & ACROSS_SIGN) == 0 ? 1 : -1;
            }
        }

        /** RULES 0 to 5, as section 5 numbers them. */
        void becomeByRule(Step step, int which) {
            int swapped = (step.signs & ACROSS_SIGN) << 1 | (step.signs & UP_SIGN) >> 1;
            switch (which) {
                case 0:
                    become(step.across, -step.up, step.signs ^ UP_SIGN);
                    break;
                case 1:
                    become(-step.across, step.up, step.signs ^ ACROSS_SIGN);
                    break;
                case 2:
                    become(-step.up, step.across, swapped ^ ACROSS_SIGN);
                    break;
                case 3:
                    become(step.up, -step.across, swapped ^ UP_SIGN);
                    break;
                case 4:
                    become(step.up, step.across, swapped);
                    break;
                default:
                    become(-step.across, -step.up, step.signs ^ BOTH_SIGNS);
                    break;
            }
        }

        boolean isNull() {
            return across == 0 && up == 0;
        }

        boolean isUpper() {
            return (signs & UP_SIGN) == 0;
        }

        boolean isTwinOf(Step step) {
            return across == step.across && up == step.up && signs == step.signs;
        }

        boolean isOfNoSize() {
            return up == 0 && lookAcross > 0;
        }

        boolean isDiagonal() {
            return up != 0 && (across == up || across == -up);
        }

        boolean isFixed() {
            return up == 0 || across == 0 || isDiagonal();
        }

        /** ORDER: -1 if this one stands AHEAD, 1 if the other one does. */
        int orderTo(Step step) {
            if (isUpper() != step.isUpper()) {
                return isUpper() ? 1 : -1;
            }
            int cross = lookAcross * step.up - up * step.lookAcross;
            if (cross != 0) {
                return cross > 0 ? -1 : 1;
            }
            if (lookAcross * step.lookAcross + up * step.up > 0) {
                return 0;
            }
            return isUpper() == (lookAcross > 0) ? -1 : 1;
        }

        int crossWith(Step step) {
            return across * step.up - up * step.across;
        }

        int sideOf(Step step) {
            return signOf(crossWith(step));
        }

        /** The ANGLE in units of Angle, below 0 if LOWER. */
        long angle() {
            long size = isOfNoSize() ? 0
                    : up == 0 ? Angle.HALF_TURN
                    : across == 0 ? Angle.QUARTER_TURN
                    : Angle.between(across, up);
            return isUpper() ? size : -size;
        }

        /** The first 32 digits of the ANSWER; the angle is this step's, and tells no SIGN if it is 0. */
        int firstDigits(long angle) {
            int sizeDigits = Angle.exponentAndHead(angle < 0 ? -angle : angle);
            return isUpper() ? sizeDigits : sizeDigits | Angle.SIGN_DIGIT;
        }

        /** Of a FIXED one alone: the last 32 digits of the FRACTION. */
        int lastDigits() {
            if (isOfNoSize()) {
                return 0;
            }
            boolean isBackDiagonal = isDiagonal() && across < 0;
            return (int) (isBackDiagonal ? Angle.BACK_DIAGONAL_FRACTION : Angle.HALF_TURN_FRACTION);
        }
    }

    /** Lengths of arc as whole numbers of units, each 1 / 2^60. */
    private static final class Angle {
        static final int UNIT_DIGITS = 60;
        static final long ONE = 1L << UNIT_DIGITS;
        /** H and Q of the document, which are exact in units. */
        static final long HALF_TURN = 7074237752028440L << 9;
        static final long QUARTER_TURN = HALF_TURN >> 1;
        /** The true half turn and quarter turn, to the nearest unit. */
        static final long TRUE_HALF = 3622009729038561421L;
        static final long TRUE_QUARTER = 1811004864519280711L;
        static final long HALF_TURN_FRACTION = 2570638124657944L;
        static final long BACK_DIAGONAL_FRACTION = 802078686650834L;
        static final int SIGN_DIGIT = 1 << 31;
        static final int EXPONENT_OF_ONE = 1023;
        static final int HEAD_DIGITS = 20;
        static final int LEAST_POWER = -7;
        static final int MOST_POWER = 1;
        /** Angles of two different rays differ by far more than this, and errors are far smaller. */
        static final long NEAR = ONE >> 20;
        /** Each term of the series is less than half the one before, so no later one has a unit. */
        static final int MOST_TERMS = 60;

        /** The size of the true angle of a step that is on no axis. */
        static long between(int across, int up) {
            long width = across < 0 ? -across : across;
            long height = up < 0 ? -up : up;
            long fromAxis = height <= width ? arc(height, width) : TRUE_QUARTER - arc(width, height);
            return across > 0 ? fromAxis : TRUE_HALF - fromAxis;
        }

        /**
         * The angle with the tangent height / width, at most 1, by Euler's series: a sum of positive terms,
         * each the one before times 2k / (2k + 1) and the square of the sine. Each is cut by a few units at
         * most, which leaves the error far below the 2^-44 that the document allows.
         */
        static long arc(long height, long width) {
            long squares = height * height + width * width;
            long term = timesQuotient(ONE, height * width, squares);
            long sum = term;
            for (int k = 1; k <= MOST_TERMS && term > 0; k++) {
                term = timesQuotient(term, 2 * k * height * height, (2 * k + 1) * squares);
                sum += term;
            }
            return sum;
        }

        /** Cut off; split in two so that no product leaves 64 digits. No step on the axes asks, so no divisor is 0. */
        static long timesQuotient(long value, long dividend, long divisor) {
            if (divisor <= 0) {
                return 0;
            }
            return value / divisor * dividend + value % divisor * dividend / divisor;
        }

        /** The GRADE; a shift rounds down below 0, too. */
        static int roundDown(long angle, int digits) {
            return (int) (angle >> (UNIT_DIGITS - digits));
        }

        static int exponentAndHead(long size) {
            if (size == 0) {
                return 0;
            }
            int power = MOST_POWER;
            while (power > LEAST_POWER && size >> (UNIT_DIGITS + power) == 0) {
                power--;
            }
            int head = (int) (size >> (UNIT_DIGITS + power - HEAD_DIGITS)) - (1 << HEAD_DIGITS);
            return (power + EXPONENT_OF_ONE) << HEAD_DIGITS | head;
        }

        /**
         * ORDER of two answers by their first 32 digits. They suffice: two rays are more than 2^-15 apart,
         * and no ray has both a FIXED step and one that is not.
         */
        static int compareDigits(int one, int other) {
            return signOf((long) rankOf(one) - rankOf(other));
        }

        /** With the sign digit the greater size ranks lower, and 0 itself below the other 0. */
        static int rankOf(int digits) {
            return digits >= 0 ? digits : ~(digits & ~SIGN_DIGIT);
        }

        /** The SIDE as the shorter way round from one angle to the other tells it. */
        static int sideBetween(long from, long to) {
            long way = to - from;
            if (way > HALF_TURN) {
                way -= 2 * HALF_TURN;
            } else if (way < -HALF_TURN) {
                way += 2 * HALF_TURN;
            }
            long size = way < 0 ? -way : way;
            return size < NEAR || HALF_TURN - size < NEAR ? 0 : signOf(way);
        }
    }

    /** The PLACES and the CENTRE; ROUND and HULL are laid anew whenever one of them changes. */
    private static final class Field {
        static final int MOST = 12;
        /** The CENTRE stands behind all places in the rows of x and y. */
        static final int CENTRE = MOST;

        final int[] x = new int[MOST + 1];
        final int[] y = new int[MOST + 1];
        int count;
        final int[] round = new int[MOST];
        int roundCount;
        final int[] hull = new int[MOST];
        int hullCount;
        private final Step step = new Step();
        private final Step nextStep = new Step();

        /** The number of the place at a spot, -1 if there is none. */
        int numberAt(int spotX, int spotY) {
            for (int number = 0; number < count; number++) {
                if (x[number] == spotX && y[number] == spotY) {
                    return number;
                }
            }
            return -1;
        }

        /** The caller sees to it that there is room. */
        int add(int spotX, int spotY) {
            int number = count;
            x[number] = spotX;
            y[number] = spotY;
            count++;
            lay();
            return number;
        }

        void drop(int number) {
            count--;
            for (int at = number; at < count; at++) {
                x[at] = x[at + 1];
                y[at] = y[at + 1];
            }
            lay();
        }

        /** Moves a place, or the CENTRE; tells whether it was elsewhere. */
        boolean moveTo(int number, int spotX, int spotY) {
            if (x[number] == spotX && y[number] == spotY) {
                return false;
            }
            x[number] = spotX;
            y[number] = spotY;
            lay();
            return true;
        }

        void turnAll() {
            for (int at = 0; at <= CENTRE; at++) {
                int oldX = x[at];
                x[at] = -1 - y[at];
                y[at] = oldX;
            }
            lay();
        }

        void mirrorAll() {
            for (int at = 0; at <= CENTRE; at++) {
                x[at] = -1 - x[at];
            }
            lay();
        }

        void stepBetween(Step result, int from, int to) {
            result.become(x[to] - x[from], y[to] - y[from], 0);
        }

        /** The CROSS of the steps from one to two others; above 0 if the third lies left. */
        int cross(int from, int to, int third) {
            return (x[to] - x[from]) * (y[third] - y[from]) - (y[to] - y[from]) * (x[third] - x[from]);
        }

        private int dot(int from, int to, int third) {
            return (x[to] - x[from]) * (x[third] - x[from]) + (y[to] - y[from]) * (y[third] - y[from]);
        }

        /** The square of the way from one to another. */
        private int distance(int from, int to) {
            int across = x[to] - x[from];
            int up = y[to] - y[from];
            return across * across + up * up;
        }

        private static int following(int at, int rowCount) {
            return at + 1 < rowCount ? at + 1 : 0;
        }

        private void lay() {
            layRound();
            layHull();
        }

        private void layRound() {
            roundCount = 0;
            for (int number = 0; number < count; number++) {
                if (distance(CENTRE, number) > 0) {
                    int at = roundCount;
                    while (at > 0 && comesBefore(number, round[at - 1])) {
                        round[at] = round[at - 1];
                        at--;
                    }
                    round[at] = number;
                    roundCount++;
                }
            }
        }

        /** Both steps from one to two others. */
        private void takeSteps(int from, int one, int other) {
            step.become(x[one] - x[from], y[one] - y[from], 0);
            nextStep.become(x[other] - x[from], y[other] - y[from], 0);
        }

        int orderFrom(int from, int one, int other) {
            takeSteps(from, one, other);
            return step.orderTo(nextStep);
        }

        private boolean comesBefore(int one, int other) {
            takeSteps(CENTRE, one, other);
            int order = step.orderTo(nextStep);
            return order < 0 || order == 0 && distance(CENTRE, one) < distance(CENTRE, other);
        }

        private void layHull() {
            hullCount = 0;
            int first = lowest();
            int corner = first;
            for (int at = 0; at < count; at++) {
                hull[at] = corner;
                hullCount++;
                corner = cornerAfter(corner);
                if (corner == first) {
                    return;
                }
            }
        }

        /** The place with the least y, of several that with the least x. */
        private int lowest() {
            int lowest = 0;
            for (int number = 1; number < count; number++) {
                if (y[number] < y[lowest] || y[number] == y[lowest] && x[number] < x[lowest]) {
                    lowest = number;
                }
            }
            return lowest;
        }

        /** The farthest of the places that have none to the right of the way to them; a sole place itself. */
        private int cornerAfter(int corner) {
            int next = corner;
            for (int number = 0; number < count; number++) {
                if (number != corner && (next == corner || isOutside(corner, next, number))) {
                    next = number;
                }
            }
            return next;
        }

        private boolean isOutside(int corner, int next, int number) {
            int cross = cross(corner, next, number);
            return cross < 0 || cross == 0 && distance(corner, number) > distance(corner, next);
        }

        private void takeRoundSteps(int at) {
            takeSteps(CENTRE, round[at], round[following(at, roundCount)]);
        }

        boolean isRoundStar() {
            boolean hasTwoRays = false;
            for (int at = 0; at < roundCount; at++) {
                takeRoundSteps(at);
                if (step.orderTo(nextStep) != 0) {
                    if (step.sideOf(nextStep) != 1) {
                        return false;
                    }
                    hasTwoRays = true;
                }
            }
            return hasTwoRays;
        }

        int areaOfStar() {
            int area = 0;
            for (int at = 0; at < roundCount; at++) {
                takeRoundSteps(at);
                area += step.crossWith(nextStep);
            }
            return area;
        }

        int areaOfHull() {
            int area = 0;
            for (int at = 0; at < hullCount; at++) {
                int corner = hull[at];
                int next = hull[following(at, hullCount)];
                area += x[corner] * y[next] - y[corner] * x[next];
            }
            return area;
        }

        boolean isCentreOnWalk() {
            for (int begin = 0; begin < count; begin++) {
                int end = following(begin, count);
                if (cross(CENTRE, begin, end) == 0 && dot(CENTRE, begin, end) <= 0) {
                    return true;
                }
            }
            return false;
        }

        int windings() {
            int windings = 0;
            for (int begin = 0; begin < count; begin++) {
                windings += windingOf(begin, following(begin, count));
            }
            return windings;
        }

        private int windingOf(int begin, int end) {
            boolean beginsAbove = y[begin] >= y[CENTRE];
            boolean endsAbove = y[end] >= y[CENTRE];
            int side = cross(begin, end, CENTRE);
            if (beginsAbove && !endsAbove && side > 0) {
                return 1;
            }
            return !beginsAbove && endsAbove && side < 0 ? -1 : 0;
        }

        boolean isRoundSound() {
            for (int at = 0; at + 1 < roundCount; at++) {
                if (!comesBefore(round[at], round[at + 1])) {
                    return false;
                }
            }
            return true;
        }

        boolean isHullSound() {
            for (int at = 0; at < hullCount; at++) {
                int nextAt = following(at, hullCount);
                for (int number = 0; number < count; number++) {
                    if (cross(hull[at], hull[nextAt], number) < 0) {
                        return false;
                    }
                }
                int overNext = hull[following(nextAt, hullCount)];
                if (hullCount >= 3 && cross(hull[at], hull[nextAt], overNext) <= 0) {
                    return false;
                }
            }
            return true;
        }

        boolean isStarSound() {
            if (!isRoundStar()) {
                return true;
            }
            int area = areaOfStar();
            return area > 0 && area <= areaOfHull();
        }
    }
}
