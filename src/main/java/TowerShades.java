/** A game of shadows cast by towers that two players raise by turns; ../shared/DOC.md tells it whole. */
public final class TowerShades {
    public static final int NONE = -1;

    private static final int LINE = 6;
    private static final int SQUARES = 36;
    private static final int PLAYERS = 2;
    private static final int HOURS = 12;
    private static final int SLOTS = 2;
    private static final int TOP = 9;
    private static final int LEAST_CODE = 33;
    private static final int GREATEST_CODE = 126;
    private static final int REFUSED_WORTH = -999;
    private static final int RAISED = 10;
    private static final long DIGEST_START = 3631L;

    private final Field field;
    private final FieldText text;
    private final SavedStates saved;
    private final int[] slotNumbers;
    private final boolean[] slotFilled;

    public TowerShades() {
        field = new Field();
        text = new FieldText();
        saved = new SavedStates();
        slotNumbers = new int[SLOTS * Field.NUMBERS];
        slotFilled = new boolean[SLOTS];
    }

    // ---- turns

    public int raise(int square) throws IndexOutOfBoundsException {
        if (!isSquare(square)) {
            throw new IndexOutOfBoundsException("no such square");
        }
        saved.push(field);
        int reason = field.refusalReason(square);
        if (reason != 0) {
            field.refused++;
            return reason;
        }
        field.putTower(square, field.mover, field.heights[square] + 1);
        field.endTurn();
        return RAISED + field.heights[square];
    }

    public int rest() {
        saved.push(field);
        int pay = field.payNow(field.mover);
        field.endTurn();
        return pay;
    }

    // ---- the field, no turns

    public int crowd(int square, int crowd) throws IndexOutOfBoundsException, IllegalArgumentException {
        if (!isSquare(square)) {
            throw new IndexOutOfBoundsException("no such square");
        }
        if (crowd < 0 || crowd > TOP) {
            throw new IllegalArgumentException("crowd is not 0 to 9");
        }
        saved.push(field);
        int before = field.crowds[square];
        field.crowds[square] = crowd;
        return before;
    }

    public int tear(int square) throws IndexOutOfBoundsException {
        if (!isSquare(square)) {
            throw new IndexOutOfBoundsException("no such square");
        }
        saved.push(field);
        int height = field.heights[square];
        field.putTower(square, NONE, 0);
        return height;
    }

    public int hour(int hour) throws IllegalArgumentException {
        if (hour < 0 || hour >= HOURS) {
            throw new IllegalArgumentException("hour is not 0 to 11");
        }
        saved.push(field);
        int before = field.hourNow;
        field.hourNow = hour;
        return before;
    }

    // ---- texts, snapshots

    public int append(int code) throws IllegalArgumentException, IllegalStateException {
        if (code < LEAST_CODE || code > GREATEST_CODE) {
            throw new IllegalArgumentException("code is not 33 to 126");
        }
        if (text.isFull()) {
            throw new IllegalStateException("the buffer is full");
        }
        text.add(code);
        return text.length;
    }

    public int clearBuffer() {
        int before = text.length;
        text.length = 0;
        return before;
    }

    public int firstError() {
        return text.errorIndex();
    }

    public int load() throws IllegalArgumentException {
        if (!text.isWhole()) {
            throw new IllegalArgumentException("the buffer tells no field");
        }
        saved.push(field);
        int entries = text.entries();
        for (int entry = 0; entry < entries; entry++) {
            putEntry(entry);
        }
        text.length = 0;
        return field.towers();
    }

    public int keep(int slot) throws IllegalArgumentException {
        if (slot < 0 || slot >= SLOTS) {
            throw new IllegalArgumentException("slot is not 0 or 1");
        }
        field.writeTo(slotNumbers, slot * Field.NUMBERS);
        slotFilled[slot] = true;
        return field.towers();
    }

    public int goBack(int slot) throws IllegalArgumentException, IllegalStateException {
        if (slot < 0 || slot >= SLOTS) {
            throw new IllegalArgumentException("slot is not 0 or 1");
        }
        if (!slotFilled[slot]) {
            throw new IllegalStateException("no snapshot in the slot");
        }
        saved.push(field);
        field.readFrom(slotNumbers, slot * Field.NUMBERS);
        return field.towers();
    }

    public int undo() throws IllegalStateException {
        if (saved.size == 0) {
            throw new IllegalStateException("no saved state");
        }
        saved.popInto(field);
        return saved.size;
    }

    // ---- looks; nothing is changed

    public int squareOf(int square, int what) throws IndexOutOfBoundsException, IllegalArgumentException {
        if (!isSquare(square)) {
            throw new IndexOutOfBoundsException("no such square");
        }
        switch (what) {
            case 0:
                return field.heights[square];
            case 1:
                return field.owners[square];
            case 2:
                return field.crowds[square];
            case 3:
                return field.isDark(square, field.hourNow) ? 1 : 0;
            case 4:
                return field.isDarkBySweep(square, field.hourNow) ? 1 : 0;
            case 5:
                return field.towersShading(square, 0) + field.towersShading(square, 1);
            case 6:
                return field.squaresShadedFrom(square);
            case 7:
                return field.darkHourMask(square);
            default:
                throw new IllegalArgumentException("what is not 0 to 7");
        }
    }

    public int playerOf(int player, int what) throws IndexOutOfBoundsException, IllegalArgumentException {
        if (player < 0 || player >= PLAYERS) {
            throw new IndexOutOfBoundsException("no such player");
        }
        switch (what) {
            case 0:
                return field.scores[player];
            case 1:
                return field.towersOf(player);
            case 2:
                return field.heightsOf(player);
            case 3:
                return field.darkTowersOf(player);
            case 4:
                return field.payNow(player);
            case 5:
                return field.rivalsShadedBy(player);
            default:
                throw new IllegalArgumentException("what is not 0 to 5");
        }
    }

    public int count(int what) throws IllegalArgumentException {
        switch (what) {
            case 0:
                return field.hourNow;
            case 1:
                return Sun.side(field.hourNow);
            case 2:
                return Sun.steepness(field.hourNow);
            case 3:
                return field.mover;
            case 4:
                return field.turns;
            case 5:
                return field.darkSquares(field.hourNow);
            case 6:
                return field.towers();
            case 7:
                return field.crowdsTogether();
            case 8:
                return field.refused;
            case 9:
                return saved.size;
            default:
                throw new IllegalArgumentException("what is not 0 to 9");
        }
    }

    // ---- what would be; nothing is changed

    public int whyNot(int square) throws IndexOutOfBoundsException {
        if (!isSquare(square)) {
            throw new IndexOutOfBoundsException("no such square");
        }
        return field.refusalReason(square);
    }

    public int ifRaised(int square) throws IndexOutOfBoundsException {
        if (!isSquare(square)) {
            throw new IndexOutOfBoundsException("no such square");
        }
        return field.worthOfRaising(square);
    }

    public int bestSquare() {
        int best = NONE;
        int bestWorth = REFUSED_WORTH;
        for (int square = 0; square < SQUARES; square++) {
            int worth = field.worthOfRaising(square);
            if (worth > bestWorth) {
                best = square;
                bestWorth = worth;
            }
        }
        return best;
    }

    public int needed(int from, int square) throws IndexOutOfBoundsException {
        if (!isSquare(from) || !isSquare(square)) {
            throw new IndexOutOfBoundsException("no such square");
        }
        int distance = Sun.distanceTowardSun(Sun.side(field.hourNow), square, from);
        if (distance == 0) {
            return NONE;
        }
        int height = field.heights[square] + distance * Sun.steepness(field.hourNow) + 1;
        return height > TOP ? NONE : height;
    }

    public int darkestHour() {
        int darkest = 0;
        int most = field.darkSquares(0);
        for (int hour = 1; hour < HOURS; hour++) {
            int dark = field.darkSquares(hour);
            if (dark > most) {
                darkest = hour;
                most = dark;
            }
        }
        return darkest;
    }

    public double darkShare() {
        return (double) field.darkSquares(field.hourNow) / 36.0;
    }

    public long digest() {
        long hash = DIGEST_START;
        for (int what = 0; what <= 9; what++) {
            hash = 31 * hash + count(what);
        }
        hash = digestSquares(hash);
        hash = digestPlayers(hash);
        hash = 31 * hash + bestSquare();
        hash = 31 * hash + needed(0, 5);
        hash = 31 * hash + needed(5, 0);
        hash = 31 * hash + needed(30, 0);
        hash = 31 * hash + needed(0, 30);
        hash = 31 * hash + darkestHour();
        hash = 31 * hash + bitsOfShare(darkShare());
        for (int slot = 0; slot < SLOTS; slot++) {
            hash = 31 * hash + (slotFilled[slot] ? 1 : 0);
        }
        return digestText(hash);
    }

    private long digestSquares(long start) {
        long hash = start;
        for (int square = 0; square < SQUARES; square++) {
            for (int what = 0; what <= 7; what++) {
                hash = 31 * hash + squareOf(square, what);
            }
            hash = 31 * hash + whyNot(square);
            hash = 31 * hash + ifRaised(square);
        }
        return hash;
    }

    private long digestPlayers(long start) {
        long hash = start;
        for (int player = 0; player < PLAYERS; player++) {
            for (int what = 0; what <= 5; what++) {
                hash = 31 * hash + playerOf(player, what);
            }
        }
        return hash;
    }

    private long digestText(long start) {
        long hash = 31 * start + text.length;
        for (int index = 0; index < text.length; index++) {
            hash = 31 * hash + text.codes[index];
        }
        return hash;
    }

    /**
     * The bits of a share from 0 to 1, made by hand, as the library that LANGUAGE.md allows has no call for them.
     * To double a share and to take 1 from one of 1 to 2 are exact, so that no digit is lost.
     */
    private static long bitsOfShare(double share) {
        if (share <= 0.0) {
            return 0L;
        }
        double fraction = share;
        long exponent = 1023L;
        while (fraction < 1.0 && exponent > 1L) {
            fraction = fraction * 2.0;
            exponent--;
        }
        double twoTo52 = 4503599627370496.0;
        return (exponent << 52) | (long) ((fraction - 1.0) * twoTo52);
    }

    private static boolean isSquare(int square) {
        return square >= 0 && square < SQUARES;
    }

    private void putEntry(int entry) {
        int square = text.square(entry);
        int mark = text.mark(entry);
        int number = text.number(entry);
        if (mark == '=') {
            field.crowds[square] = number;
        } else {
            field.putTower(square, mark == '+' ? 0 : 1, number);
        }
    }

    /** Where the sun stands at an hour, and what lies toward it. */
    private static final class Sun {
        static int side(int hour) {
            return hour / 3;
        }

        static int steepness(int hour) {
            switch (hour % 3) {
                case 0:
                    return 1;
                case 1:
                    return 3;
                default:
                    return 2;
            }
        }

        static int stepTowardSun(int side) {
            switch (side) {
                case 0:
                    return 1;
                case 1:
                    return LINE;
                case 2:
                    return -1;
                default:
                    return -LINE;
            }
        }

        static int squaresTowardSun(int side, int square) {
            switch (side) {
                case 0:
                    return LINE - 1 - square % LINE;
                case 1:
                    return LINE - 1 - square / LINE;
                case 2:
                    return square % LINE;
                default:
                    return square / LINE;
            }
        }

        /** 0 if the square "from" does not lie toward the sun from the other one. */
        static int distanceTowardSun(int side, int square, int from) {
            int step = stepTowardSun(side);
            int reach = squaresTowardSun(side, square);
            for (int distance = 1; distance <= reach; distance++) {
                if (square + distance * step == from) {
                    return distance;
                }
            }
            return 0;
        }
    }

    /** All that a snapshot and a saved state hold: the squares, the scores, the hour and the turns. */
    private static final class Field {
        private static final int NUMBERS = 3 * SQUARES + PLAYERS + 4;

        private final int[] heights = new int[SQUARES];
        private final int[] owners = new int[SQUARES];
        private final int[] crowds = new int[SQUARES];
        private final int[] scores = new int[PLAYERS];
        private int hourNow;
        private int mover;
        private int turns;
        private int refused;

        Field() {
            for (int square = 0; square < SQUARES; square++) {
                owners[square] = NONE;
                crowds[square] = 1;
            }
        }

        void writeTo(int[] numbers, int start) {
            System.arraycopy(heights, 0, numbers, start, SQUARES);
            System.arraycopy(owners, 0, numbers, start + SQUARES, SQUARES);
            System.arraycopy(crowds, 0, numbers, start + 2 * SQUARES, SQUARES);
            System.arraycopy(scores, 0, numbers, start + 3 * SQUARES, PLAYERS);
            int rest = start + 3 * SQUARES + PLAYERS;
            numbers[rest] = hourNow;
            numbers[rest + 1] = mover;
            numbers[rest + 2] = turns;
            numbers[rest + 3] = refused;
        }

        void readFrom(int[] numbers, int start) {
            System.arraycopy(numbers, start, heights, 0, SQUARES);
            System.arraycopy(numbers, start + SQUARES, owners, 0, SQUARES);
            System.arraycopy(numbers, start + 2 * SQUARES, crowds, 0, SQUARES);
            System.arraycopy(numbers, start + 3 * SQUARES, scores, 0, PLAYERS);
            int rest = start + 3 * SQUARES + PLAYERS;
            hourNow = numbers[rest];
            mover = numbers[rest + 1];
            turns = numbers[rest + 2];
            refused = numbers[rest + 3];
        }

        void putTower(int square, int owner, int height) {
            owners[square] = owner;
            heights[square] = height;
        }

        void endTurn() {
            for (int player = 0; player < PLAYERS; player++) {
                scores[player] += payNow(player);
            }
            hourNow = (hourNow + 1) % HOURS;
            mover = 1 - mover;
            turns++;
        }

        /** 0 if there is none. */
        int refusalReason(int square) {
            if (owners[square] == 1 - mover) {
                return 1;
            }
            if (heights[square] == TOP) {
                return 2;
            }
            return isDark(square, hourNow) ? 3 : 0;
        }

        /** Raises the square and puts it back as it was: a copy of the field for each square would cost more. */
        int worthOfRaising(int square) {
            if (refusalReason(square) != 0) {
                return REFUSED_WORTH;
            }
            int owner = owners[square];
            int height = heights[square];
            putTower(square, mover, height + 1);
            int worth = payNow(mover) - payNow(1 - mover);
            putTower(square, owner, height);
            return worth;
        }

        boolean isDark(int square, int hour) {
            int side = Sun.side(hour);
            int steepness = Sun.steepness(hour);
            int step = Sun.stepTowardSun(side);
            int reach = Sun.squaresTowardSun(side, square);
            for (int distance = 1; distance <= reach; distance++) {
                if (heights[square + distance * step] - distance * steepness > heights[square]) {
                    return true;
                }
            }
            return false;
        }

        boolean isDarkBySweep(int square, int hour) {
            int side = Sun.side(hour);
            int steepness = Sun.steepness(hour);
            int step = Sun.stepTowardSun(side);
            int shadow = 0;
            for (int distance = Sun.squaresTowardSun(side, square); distance >= 1; distance--) {
                shadow = Math.max(shadow, heights[square + distance * step]) - steepness;
            }
            return shadow > heights[square];
        }

        int towersShading(int square, int player) {
            int side = Sun.side(hourNow);
            int steepness = Sun.steepness(hourNow);
            int step = Sun.stepTowardSun(side);
            int reach = Sun.squaresTowardSun(side, square);
            int shaders = 0;
            for (int distance = 1; distance <= reach; distance++) {
                int from = square + distance * step;
                if (owners[from] == player && heights[from] - distance * steepness > heights[square]) {
                    shaders++;
                }
            }
            return shaders;
        }

        int squaresShadedFrom(int square) {
            int side = Sun.side(hourNow);
            int steepness = Sun.steepness(hourNow);
            int step = Sun.stepTowardSun(side);
            int behind = LINE - 1 - Sun.squaresTowardSun(side, square);
            int shaded = 0;
            for (int distance = 1; distance <= behind; distance++) {
                if (heights[square] - distance * steepness > heights[square - distance * step]) {
                    shaded++;
                }
            }
            return shaded;
        }

        int darkHourMask(int square) {
            int mask = 0;
            for (int hour = 0; hour < HOURS; hour++) {
                if (isDark(square, hour)) {
                    mask |= 1 << hour;
                }
            }
            return mask;
        }

        int darkSquares(int hour) {
            int dark = 0;
            for (int square = 0; square < SQUARES; square++) {
                if (isDark(square, hour)) {
                    dark++;
                }
            }
            return dark;
        }

        int towers() {
            return towersOf(0) + towersOf(1);
        }

        int towersOf(int player) {
            int towers = 0;
            for (int square = 0; square < SQUARES; square++) {
                if (owners[square] == player) {
                    towers++;
                }
            }
            return towers;
        }

        int heightsOf(int player) {
            int together = 0;
            for (int square = 0; square < SQUARES; square++) {
                if (owners[square] == player) {
                    together += heights[square];
                }
            }
            return together;
        }

        int darkTowersOf(int player) {
            int dark = 0;
            for (int square = 0; square < SQUARES; square++) {
                if (owners[square] == player && isDark(square, hourNow)) {
                    dark++;
                }
            }
            return dark;
        }

        int payNow(int player) {
            int pay = 0;
            for (int square = 0; square < SQUARES; square++) {
                if (owners[square] == player && !isDark(square, hourNow)) {
                    pay += crowds[square];
                }
            }
            return pay;
        }

        int rivalsShadedBy(int player) {
            int shaded = 0;
            for (int square = 0; square < SQUARES; square++) {
                if (owners[square] == 1 - player && towersShading(square, player) > 0) {
                    shaded++;
                }
            }
            return shaded;
        }

        int crowdsTogether() {
            int together = 0;
            for (int square = 0; square < SQUARES; square++) {
                together += crowds[square];
            }
            return together;
        }
    }

    /** The latest states of the field, at most six, in a ring of rows that is made once. */
    private static final class SavedStates {
        private static final int LIMIT = 6;

        private final int[] numbers = new int[LIMIT * Field.NUMBERS];
        private int oldest;
        private int size;

        void push(Field field) {
            // In a full ring the place behind the latest state is that of the oldest one, which is dropped.
            field.writeTo(numbers, place(size));
            if (size < LIMIT) {
                size++;
            } else {
                oldest = (oldest + 1) % LIMIT;
            }
        }

        void popInto(Field field) {
            size--;
            field.readFrom(numbers, place(size));
        }

        private int place(int age) {
            return (oldest + age) % LIMIT * Field.NUMBERS;
        }
    }

    /** The buffer. Each entry of a field as a text has four characters, and a ";" parts it from the next one. */
    private static final class FieldText {
        private static final int LIMIT = 60;
        private static final int STRIDE = 5;

        private final int[] codes = new int[LIMIT];
        private int length;

        boolean isFull() {
            return length >= LIMIT;
        }

        void add(int code) {
            codes[length] = code;
            length++;
        }

        int errorIndex() {
            for (int index = 0; index < length; index++) {
                if (!fits(index)) {
                    return index;
                }
            }
            return length;
        }

        boolean isWhole() {
            return length % STRIDE == STRIDE - 1 && errorIndex() == length;
        }

        int entries() {
            return (length + 1) / STRIDE;
        }

        int square(int entry) {
            int start = entry * STRIDE;
            return (codes[start] - 'a') * LINE + codes[start + 1] - '1';
        }

        int mark(int entry) {
            return codes[entry * STRIDE + 2];
        }

        int number(int entry) {
            return codes[entry * STRIDE + 3] - '0';
        }

        /** Whether a character can stand where it does, if all characters before it can. */
        private boolean fits(int index) {
            int code = codes[index];
            switch (index % STRIDE) {
                case 0:
                    return code >= 'a' && code <= 'f';
                case 1:
                    return code >= '1' && code <= '6';
                case 2:
                    return code == '+' || code == '-' || code == '=';
                case 3:
                    return code >= leastDigit(codes[index - 1]) && code <= '9';
                default:
                    return code == ';';
            }
        }

        /** A crowd may be 0, a tower's height may not. */
        private static int leastDigit(int mark) {
            return mark == '=' ? '0' : '1';
        }
    }
}
