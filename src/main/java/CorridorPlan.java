import java.util.Arrays;

/**
 * Corridors dug between chambers of a plan: chambers, rock that is dug away and filled again, who walks between
 * which chambers, least ways, doors that face one another, what would be, orders as texts, and undo.
 */
public final class CorridorPlan {
    /** There is nothing to return. */
    public static final int NONE = -1;

    private static final int COLUMNS = 16;
    private static final int ROWS = 12;
    private static final int SQUARES = 192;
    private static final int CHAMBERS = 6;
    private static final int PAIRS = 15;
    private static final int LONGEST_SIDE = 6;
    private static final int WIDEST = 3;
    private static final int FARTHEST = 9;
    private static final int MOST_SAVED = 6;
    private static final int MOST_CHARACTERS = 60;

    private static final int OUTSIDE = -3;
    private static final int ROCK = -2;
    private static final int DUG = -1;

    private static final int SIDES = 4;
    private static final int[] SIDE_X = {1, -1, 0, 0};
    private static final int[] SIDE_Y = {0, 0, 1, -1};

    private static final int BOX = 4;
    private static final int BOX_LEFT = 0;
    private static final int BOX_TOP = 1;
    private static final int BOX_COLUMNS = 2;
    private static final int BOX_ROWS = 3;

    private static final long HASH_START = 2857L;

    private final Plan plan = new Plan();
    private final Plan trial = new Plan();
    private final Saved saved = new Saved();
    private final Orders orders = new Orders();
    private final Ways ways = new Ways();

    /** Creates a plan of rock, with an empty buffer. */
    public CorridorPlan() {
    }

    // ---- chambers

    /** Adds a chamber and returns its number. Undoable. */
    public int room(int x, int y, int columns, int rows) throws IllegalArgumentException, IllegalStateException {
        if (columns < 1 || columns > LONGEST_SIDE || rows < 1 || rows > LONGEST_SIDE) {
            throw new IllegalArgumentException("a chamber has 1 to 6 columns and 1 to 6 rows");
        }
        if (x < 0 || x > COLUMNS - columns || y < 0 || y > ROWS - rows) {
            throw new IllegalArgumentException("the chamber would not be within the plan");
        }
        int number = plan.lowestFreeNumber();
        if (number == NONE) {
            throw new IllegalStateException("there are 6 chambers");
        }
        if (!plan.hasSpaceFor(x, y, columns, rows)) {
            throw new IllegalStateException("the chamber cannot be there");
        }
        saved.push(plan);
        plan.addChamber(number, x, y, columns, rows);
        return number;
    }

    /** Gives a chamber up and returns how many squares are dug by that. Undoable. */
    public int give(int room) throws IndexOutOfBoundsException {
        requireChamber(room);
        saved.push(plan);
        return plan.giveUp(room);
    }

    /** Tells who walks between two chambers and returns the width that was needed. Undoable. */
    public int walk(int one, int other, int width) throws IndexOutOfBoundsException, IllegalArgumentException {
        requireTwoChambers(one, other);
        if (width < 0 || width > WIDEST) {
            throw new IllegalArgumentException("a width is 0 to 3");
        }
        saved.push(plan);
        int before = plan.widthBetween(one, other);
        plan.changeWidth(one, other, width);
        return before;
    }

    // ---- digging

    /** Digs a square, or fills it, if it is dug; returns 1 if it is dug then, otherwise 0. Undoable. */
    public int dig(int x, int y) throws IllegalArgumentException, IllegalStateException {
        requireSquare(x, y);
        if (plan.squareAt(x, y) >= 0) {
            throw new IllegalStateException("the square belongs to a chamber");
        }
        saved.push(plan);
        plan.flip(x, y);
        return plan.squareAt(x, y) == DUG ? 1 : 0;
    }

    /** Digs the least way between two chambers and returns how many squares are dug by that. Undoable. */
    public int carve(int one, int other)
            throws IndexOutOfBoundsException, IllegalArgumentException, IllegalStateException {
        requireTwoChambers(one, other);
        if (ways.find(plan, one, other) == NONE) {
            throw new IllegalStateException("there is no way");
        }
        saved.push(plan);
        return ways.digFound(plan);
    }

    /** Digs corridors for all, by the least next one, and returns how many ways are dug. Undoable. */
    public int carveAll() {
        saved.push(plan);
        return ways.digForAll(plan);
    }

    /** Fills what no open least way needs and returns how many squares become rock. Undoable. */
    public int fillUp() {
        saved.push(plan);
        return ways.fillUnneeded(plan);
    }

    /** Changes the setting 0 and returns the previous one. Undoable. */
    public int set(int far) throws IllegalArgumentException {
        if (far < 0 || far > FARTHEST) {
            throw new IllegalArgumentException("doors face at most 0 to 9 squares far");
        }
        saved.push(plan);
        int before = plan.far();
        plan.changeFar(far);
        return before;
    }

    // ---- texts

    /** Appends a character to the buffer and returns the new length. */
    public int append(int code) throws IllegalArgumentException, IllegalStateException {
        if (code < 33 || code > 126) {
            throw new IllegalArgumentException("a character code is 33 to 126");
        }
        if (orders.length() >= MOST_CHARACTERS) {
            throw new IllegalStateException("the buffer has 60 characters");
        }
        orders.add(code);
        return orders.length();
    }

    /** Clears the buffer and returns the length that it had. */
    public int clearBuffer() {
        int before = orders.length();
        orders.clear();
        return before;
    }

    /** Returns the index of the first syntax error of the buffer, its length if there is none. */
    public int firstError() {
        return orders.readableLength();
    }

    /** Does the orders in the buffer, up to the first that cannot be done; returns how many are done. Undoable. */
    public int run() throws IllegalArgumentException {
        if (!orders.areOrders()) {
            throw new IllegalArgumentException("the buffer does not tell orders as a text");
        }
        saved.push(plan);
        int done = 0;
        int next = 0;
        while (done < MOST_CHARACTERS && next < orders.length()) {
            int semicolon = orders.readOrder(next);
            if (!doOrder(orders.one(), orders.other(), orders.deed())) {
                break;
            }
            done++;
            next = semicolon + 1;
        }
        orders.clear();
        return done;
    }

    /** Restores the latest saved state, drops it, and returns how many are left. */
    public int undo() throws IllegalStateException {
        if (saved.size() == 0) {
            throw new IllegalStateException("no state is saved");
        }
        saved.popInto(plan);
        return saved.size();
    }

    // ---- looks; nothing is changed

    /** Tells what a square is (0), or by how many sides it is a door (1). */
    public int square(int x, int y, int what) throws IllegalArgumentException {
        requireSquare(x, y);
        switch (what) {
            case 0:
                return plan.squareAt(x, y);
            case 1:
                return plan.doorSides(x, y);
            default:
                throw new IllegalArgumentException("what of a square is 0 or 1");
        }
    }

    /** Returns a property of a chamber. */
    public int chamber(int room, int what) throws IndexOutOfBoundsException, IllegalArgumentException {
        requireChamber(room);
        switch (what) {
            case 0:
            case 1:
            case 2:
            case 3:
                return plan.box(room, what);
            case 4:
                return plan.doorsOf(room);
            case 5:
                return plan.facingDoorsOf(room);
            case 6:
                return plan.walksFrom(room);
            case 7:
                return ways.closedFrom(plan, room);
            default:
                throw new IllegalArgumentException("what of a chamber is 0 to 7");
        }
    }

    /** Tells about the least way between two chambers; NONE for 0 to 3 if there is no way. */
    public int way(int one, int other, int what) throws IndexOutOfBoundsException, IllegalArgumentException {
        requireTwoChambers(one, other);
        if (what < 0 || what > 4) {
            throw new IllegalArgumentException("what of a way is 0 to 4");
        }
        if (what == 4) {
            return plan.widthBetween(one, other);
        }
        int cost = ways.find(plan, one, other);
        if (cost == NONE || what == 0) {
            return cost;
        }
        int places = ways.foundPlaces();
        if (what == 1) {
            return places;
        }
        return ways.foundPlace(what == 2 ? 0 : places - 1);
    }

    /** Returns a number of the whole plan. */
    public int count(int what) throws IllegalArgumentException {
        switch (what) {
            case 0:
                return plan.chambers();
            case 1:
                return plan.squaresThatAre(DUG);
            case 2:
                return plan.squaresThatAre(ROCK);
            case 3:
                return plan.walkedPairs();
            case 4:
                return ways.closedPairs(plan);
            case 5:
                return plan.doors();
            case 6:
                return plan.facingPairs();
            case 7:
                return ways.missingCost(plan);
            case 8:
                return saved.size();
            default:
                throw new IllegalArgumentException("what of all is 0 to 8");
        }
    }

    // ---- what would be; nothing is changed

    /** Tells what dig(x, y) would bring; NONE if the square belongs to a chamber. */
    public int ifDug(int x, int y, int what) throws IllegalArgumentException {
        requireSquare(x, y);
        if (what < 0 || what > 2) {
            throw new IllegalArgumentException("what would be is 0 to 2");
        }
        if (plan.squareAt(x, y) >= 0) {
            return NONE;
        }
        trial.copyFrom(plan);
        trial.flip(x, y);
        if (what == 0) {
            return ways.closedPairs(trial);
        }
        return what == 1 ? trial.facingPairs() : ways.missingCost(trial);
    }

    /** Returns the sum of the costs, as told for count(7), if a chamber were given up. */
    public int ifGiven(int room) throws IndexOutOfBoundsException {
        requireChamber(room);
        trial.copyFrom(plan);
        trial.giveUp(room);
        return ways.missingCost(trial);
    }

    /** Returns how many squares carveAll() would dig. */
    public int allCost() {
        trial.copyFrom(plan);
        ways.digForAll(trial);
        return trial.squaresThatAre(DUG) - plan.squaresThatAre(DUG);
    }

    /** Returns the share of walked pairs that have an open way; 1.0 if nobody walks. */
    public double openShare() {
        int walked = plan.walkedPairs();
        if (walked <= 0) {
            return 1.0;
        }
        return (double) (walked - ways.closedPairs(plan)) / (double) walked;
    }

    /** Computes a hash of the whole state. */
    public long digest() {
        long hash = HASH_START;
        for (int what = 0; what <= 8; what++) {
            hash = mix(hash, count(what));
        }
        hash = mix(hash, plan.far());
        hash = mixSquares(hash);
        hash = mixChambers(hash);
        hash = mixWays(hash);
        for (int what = 0; what <= 2; what++) {
            hash = mix(hash, ifDug(8, 6, what));
        }
        int lowest = plan.lowestChamber();
        if (lowest != NONE) {
            hash = mix(hash, ifGiven(lowest));
        }
        hash = mix(hash, allCost());
        hash = mix(hash, bitsOfShare(openShare()));
        return mixBuffer(hash);
    }

    // ---- behind the face

    private void requireChamber(int room) {
        if (!plan.hasChamber(room)) {
            throw new IndexOutOfBoundsException("there is no such chamber");
        }
    }

    private void requireTwoChambers(int one, int other) {
        requireChamber(one);
        requireChamber(other);
        if (one == other) {
            throw new IllegalArgumentException("both chambers are the same");
        }
    }

    private static void requireSquare(int x, int y) {
        if (x < 0 || x >= COLUMNS || y < 0 || y >= ROWS) {
            throw new IllegalArgumentException("the square is not within the plan");
        }
    }

    /** Does one order without saving a state; answers false, and changes nothing, if its method would throw. */
    private boolean doOrder(int one, int other, int deed) {
        if (!plan.hasChamber(one) || !plan.hasChamber(other)) {
            return false;
        }
        if (deed != Orders.CARVE) {
            plan.changeWidth(one, other, deed);
            return true;
        }
        if (ways.find(plan, one, other) == NONE) {
            return false;
        }
        ways.digFound(plan);
        return true;
    }

    private static long mix(long hash, long value) {
        return 31L * hash + value;
    }

    private long mixSquares(long hash) {
        long mixed = hash;
        for (int y = 0; y < ROWS; y++) {
            for (int x = 0; x < COLUMNS; x++) {
                int what = plan.squareAt(x, y);
                mixed = mix(mixed, what);
                if (what == DUG) {
                    mixed = mix(mixed, plan.doorSides(x, y));
                }
            }
        }
        return mixed;
    }

    private long mixChambers(long hash) {
        long mixed = hash;
        for (int room = 0; room < CHAMBERS; room++) {
            if (plan.hasChamber(room)) {
                mixed = mix(mixed, room);
                for (int what = 0; what <= 7; what++) {
                    mixed = mix(mixed, chamber(room, what));
                }
            }
        }
        return mixed;
    }

    private long mixWays(long hash) {
        long mixed = hash;
        for (int one = 0; one < CHAMBERS; one++) {
            for (int other = one + 1; other < CHAMBERS; other++) {
                if (plan.hasChamber(one) && plan.hasChamber(other)) {
                    for (int what = 0; what <= 4; what++) {
                        mixed = mix(mixed, way(one, other, what));
                    }
                }
            }
        }
        return mixed;
    }

    private long mixBuffer(long hash) {
        long mixed = mix(hash, orders.length());
        for (int index = 0; index < orders.length(); index++) {
            mixed = mix(mixed, orders.codeAt(index));
        }
        return mixed;
    }

    /**
     * What Double.doubleToLongBits tells of a share, 0.0 to 1.0: the language's rules leave that method out, so the
     * exponent is found by doubling, which is exact.
     */
    private static long bitsOfShare(double share) {
        if (share <= 0.0) {
            return 0L;
        }
        double fraction = share;
        long exponent = 1023L;
        while (fraction < 1.0 && exponent > 1L) {
            fraction = fraction * 2.0;
            exponent--;
        }
        return (exponent << 52) + (long) ((fraction - 1.0) * 4503599627370496.0);
    }

    private static int at(int[] row, int index) {
        return index >= 0 && index < row.length ? row[index] : 0;
    }

    private static void put(int[] row, int index, int value) {
        if (index >= 0 && index < row.length) {
            row[index] = value;
        }
    }

    private static void clearMarks(boolean[] marks) {
        for (int i = 0; i < marks.length; i++) {
            marks[i] = false;
        }
    }

    private static void copyRow(int[] from, int[] to) {
        for (int i = 0; i < from.length && i < to.length; i++) {
            to[i] = from[i];
        }
    }

    /** All that undo brings back: the squares, the chambers, who walks, and the setting. */
    private static final class Plan {
        private final int[] squares = new int[SQUARES];
        /** Four numbers of each chamber; one of 0 columns is none. */
        private final int[] boxes = new int[CHAMBERS * BOX];
        /** The width between each two chambers, told both ways round. */
        private final int[] widths = new int[CHAMBERS * CHAMBERS];
        private int far = 2;

        Plan() {
            Arrays.fill(squares, ROCK);
        }

        void copyFrom(Plan other) {
            copyRow(other.squares, squares);
            copyRow(other.boxes, boxes);
            copyRow(other.widths, widths);
            far = other.far;
        }

        int far() {
            return far;
        }

        void changeFar(int squaresFar) {
            far = squaresFar;
        }

        /** ROCK, DUG, the number of a chamber, or OUTSIDE. */
        int squareAt(int x, int y) {
            if (x < 0 || x >= COLUMNS || y < 0 || y >= ROWS) {
                return OUTSIDE;
            }
            int number = y * COLUMNS + x;
            return number >= 0 && number < squares.length ? squares[number] : OUTSIDE;
        }

        void changeSquare(int x, int y, int what) {
            if (x >= 0 && x < COLUMNS && y >= 0 && y < ROWS) {
                put(squares, y * COLUMNS + x, what);
            }
        }

        void flip(int x, int y) {
            changeSquare(x, y, squareAt(x, y) == DUG ? ROCK : DUG);
        }

        int squaresThatAre(int what) {
            int found = 0;
            for (int number = 0; number < squares.length; number++) {
                if (squares[number] == what) {
                    found++;
                }
            }
            return found;
        }

        // ---- chambers

        int box(int room, int what) {
            if (room < 0 || room >= CHAMBERS || what < 0 || what >= BOX) {
                return 0;
            }
            int index = room * BOX + what;
            return index >= 0 && index < boxes.length ? boxes[index] : 0;
        }

        boolean hasChamber(int room) {
            return room >= 0 && room < CHAMBERS && box(room, BOX_COLUMNS) > 0;
        }

        int chambers() {
            int found = 0;
            for (int room = 0; room < CHAMBERS; room++) {
                if (hasChamber(room)) {
                    found++;
                }
            }
            return found;
        }

        int lowestChamber() {
            for (int room = 0; room < CHAMBERS; room++) {
                if (hasChamber(room)) {
                    return room;
                }
            }
            return NONE;
        }

        int lowestFreeNumber() {
            for (int room = 0; room < CHAMBERS; room++) {
                if (!hasChamber(room)) {
                    return room;
                }
            }
            return NONE;
        }

        boolean hasSpaceFor(int x, int y, int columns, int rows) {
            for (int j = y; j < y + rows; j++) {
                for (int i = x; i < x + columns; i++) {
                    if (squareAt(i, j) != ROCK || chamberSides(i, j) > 0) {
                        return false;
                    }
                }
            }
            return true;
        }

        void addChamber(int room, int x, int y, int columns, int rows) {
            put(boxes, room * BOX + BOX_LEFT, x);
            put(boxes, room * BOX + BOX_TOP, y);
            put(boxes, room * BOX + BOX_COLUMNS, columns);
            put(boxes, room * BOX + BOX_ROWS, rows);
            coverBox(room, room);
        }

        /** Answers how many squares are dug by that. */
        int giveUp(int room) {
            int dug = box(room, BOX_COLUMNS) * box(room, BOX_ROWS);
            coverBox(room, DUG);
            for (int what = 0; what < BOX; what++) {
                put(boxes, room * BOX + what, 0);
            }
            for (int other = 0; other < CHAMBERS; other++) {
                changeWidth(room, other, 0);
            }
            return dug;
        }

        private void coverBox(int room, int what) {
            int left = box(room, BOX_LEFT);
            int top = box(room, BOX_TOP);
            int columns = box(room, BOX_COLUMNS);
            int rows = box(room, BOX_ROWS);
            for (int j = 0; j < rows; j++) {
                for (int i = 0; i < columns; i++) {
                    changeSquare(left + i, top + j, what);
                }
            }
        }

        // ---- who walks

        int widthBetween(int one, int other) {
            return at(widths, one * CHAMBERS + other);
        }

        void changeWidth(int one, int other, int width) {
            put(widths, one * CHAMBERS + other, width);
            put(widths, other * CHAMBERS + one, width);
        }

        boolean isWalked(int one, int other) {
            return widthBetween(one, other) > 0;
        }

        int walksFrom(int room) {
            int walks = 0;
            for (int other = 0; other < CHAMBERS; other++) {
                if (isWalked(room, other)) {
                    walks++;
                }
            }
            return walks;
        }

        int walkedPairs() {
            int pairs = 0;
            for (int one = 0; one < CHAMBERS; one++) {
                for (int other = one + 1; other < CHAMBERS; other++) {
                    if (isWalked(one, other)) {
                        pairs++;
                    }
                }
            }
            return pairs;
        }

        // ---- doors

        private int chamberSides(int x, int y) {
            int sides = 0;
            for (int side = 0; side < SIDES; side++) {
                if (squareAt(x + at(SIDE_X, side), y + at(SIDE_Y, side)) >= 0) {
                    sides++;
                }
            }
            return sides;
        }

        int doorSides(int x, int y) {
            return squareAt(x, y) == DUG ? chamberSides(x, y) : 0;
        }

        int doors() {
            int doors = 0;
            for (int y = 0; y < ROWS; y++) {
                for (int x = 0; x < COLUMNS; x++) {
                    doors += doorSides(x, y);
                }
            }
            return doors;
        }

        /** Whether the square is a door of the chamber that lies towards that side of it. */
        private boolean isDoor(int room, int x, int y, int side) {
            return squareAt(x, y) == DUG && squareAt(x - at(SIDE_X, side), y - at(SIDE_Y, side)) == room;
        }

        int doorsOf(int room) {
            int doors = 0;
            for (int y = 0; y < ROWS; y++) {
                for (int x = 0; x < COLUMNS; x++) {
                    for (int side = 0; side < SIDES; side++) {
                        if (isDoor(room, x, y, side)) {
                            doors++;
                        }
                    }
                }
            }
            return doors;
        }

        int facingDoorsOf(int room) {
            int doors = 0;
            for (int y = 0; y < ROWS; y++) {
                for (int x = 0; x < COLUMNS; x++) {
                    for (int side = 0; side < SIDES; side++) {
                        if (isDoor(room, x, y, side) && isFaced(room, x, y, side)) {
                            doors++;
                        }
                    }
                }
            }
            return doors;
        }

        /** Whether the door, going straight away from its chamber, comes to a door of another one. */
        private boolean isFaced(int room, int x, int y, int side) {
            int stepX = at(SIDE_X, side);
            int stepY = at(SIDE_Y, side);
            for (int step = 0; step <= far; step++) {
                int ahead = squareAt(x + (step + 1) * stepX, y + (step + 1) * stepY);
                if (ahead != DUG) {
                    return ahead >= 0 && ahead != room;
                }
            }
            return false;
        }

        /** A door faces one other at most, for what it faces ends at a chamber: so two facing doors are one pair. */
        int facingPairs() {
            int facing = 0;
            for (int room = 0; room < CHAMBERS; room++) {
                if (hasChamber(room)) {
                    facing += facingDoorsOf(room);
                }
            }
            return facing / 2;
        }
    }

    /** The least ways of a plan, and what is dug or filled by them. */
    private static final class Ways {
        /** A length is told as one number, COST for each rock square and 1 for each place: cost decides first. */
        private static final int COST = 256;
        /** More than any place has rock. */
        private static final int BLOCKED = 1 << 12;
        /** Longer than any way, also than one over a BLOCKED place. */
        private static final int NO_WAY = 1 << 24;
        private static final int MOST_TURNS = 1000000;

        /** For each square the rock in the row of squares, as many as the width, that begins there; or BLOCKED. */
        private final int[] across = new int[SQUARES];
        /** The same for the column of squares. */
        private final int[] down = new int[SQUARES];
        /** For each place the rock on it, BLOCKED or more if nobody can ever stand there. */
        private final int[] standing = new int[SQUARES];
        /** For each place the length from there to the latter chamber, the rock on the place itself left out. */
        private final int[] rest = new int[SQUARES];
        private final int[] queue = new int[SQUARES];
        private final boolean[] queued = new boolean[SQUARES];
        private int queueHead = 0;
        private int queueSize = 0;
        private final boolean[] needed = new boolean[SQUARES];
        private final int[] path = new int[SQUARES];
        private int places = 0;
        private int width = 1;
        /** The chamber looked at: its least column and row, and the first ones behind it. */
        private int left = 0;
        private int top = 0;
        private int right = 0;
        private int bottom = 0;

        // ---- the least way of two chambers

        /** Finds the least way; answers its cost, NONE if there is no way. */
        int find(Plan plan, int one, int other) {
            width = Math.max(1, plan.widthBetween(one, other));
            measure(plan);
            lookAt(plan, other);
            startWhereLooked();
            spread();
            lookAt(plan, one);
            places = 0;
            int first = bestFirstPlace();
            if (first == NONE) {
                return NONE;
            }
            follow(first);
            return lengthFrom(first) / COST;
        }

        int foundPlaces() {
            return places;
        }

        int foundPlace(int index) {
            return index >= 0 && index < places ? at(path, index) : NONE;
        }

        private void measure(Plan plan) {
            for (int place = 0; place < SQUARES; place++) {
                int x = place % COLUMNS;
                int y = place / COLUMNS;
                put(across, place, rockIn(plan, x, y, width, 1));
                put(down, place, rockIn(plan, x, y, 1, width));
            }
            for (int place = 0; place < SQUARES; place++) {
                put(standing, place, rockOn(place));
            }
        }

        private static int rockIn(Plan plan, int x, int y, int columns, int rows) {
            int rock = 0;
            for (int j = y; j < y + rows; j++) {
                for (int i = x; i < x + columns; i++) {
                    int what = plan.squareAt(i, j);
                    if (what == ROCK) {
                        rock++;
                    } else if (what != DUG) {
                        return BLOCKED;
                    }
                }
            }
            return rock;
        }

        private int rockOn(int place) {
            if (place / COLUMNS + width > ROWS) {
                return BLOCKED;
            }
            int rock = 0;
            for (int row = 0; row < width; row++) {
                rock += at(across, place + row * COLUMNS);
            }
            return rock;
        }

        private boolean canStand(int place) {
            return place >= 0 && place < standing.length && standing[place] < BLOCKED;
        }

        private void lookAt(Plan plan, int room) {
            left = plan.box(room, BOX_LEFT);
            top = plan.box(room, BOX_TOP);
            right = left + plan.box(room, BOX_COLUMNS);
            bottom = top + plan.box(room, BOX_ROWS);
        }

        /** Whether a walker on the place, which has no square of a chamber, is at the chamber looked at. */
        private boolean isAtChamber(int place) {
            int x = place % COLUMNS;
            int y = place / COLUMNS;
            if (x == right || x + width == left) {
                return y < bottom && top < y + width;
            }
            return (y == bottom || y + width == top) && x < right && left < x + width;
        }

        private void startWhereLooked() {
            Arrays.fill(rest, NO_WAY);
            clearMarks(queued);
            queueHead = 0;
            queueSize = 0;
            for (int place = 0; place < SQUARES; place++) {
                if (canStand(place) && isAtChamber(place)) {
                    reach(place, 1);
                }
            }
        }

        /** Goes backwards: a step into a place costs the row or column of it that the place it comes from has not. */
        private void spread() {
            for (int turn = 0; turn < MOST_TURNS && queueSize > 0; turn++) {
                int place = takeFromQueue();
                int x = place % COLUMNS;
                int y = place / COLUMNS;
                int length = at(rest, place) + 1;
                if (x + 1 < COLUMNS) {
                    reach(place + 1, length + COST * at(down, place));
                }
                if (x > 0) {
                    reach(place - 1, length + COST * at(down, place + width - 1));
                }
                if (y + 1 < ROWS) {
                    reach(place + COLUMNS, length + COST * at(across, place));
                }
                if (y > 0) {
                    reach(place - COLUMNS, length + COST * at(across, place + (width - 1) * COLUMNS));
                }
            }
        }

        private void reach(int place, int length) {
            if (!canStand(place) || length >= at(rest, place)) {
                return;
            }
            put(rest, place, length);
            if (place < 0 || place >= queued.length || queued[place]) {
                return;
            }
            queued[place] = true;
            put(queue, (queueHead + queueSize) % SQUARES, place);
            queueSize++;
        }

        private int takeFromQueue() {
            int place = at(queue, queueHead);
            queueHead = (queueHead + 1) % SQUARES;
            queueSize--;
            if (place >= 0 && place < queued.length) {
                queued[place] = false;
            }
            return place;
        }

        private int lengthFrom(int first) {
            return COST * at(standing, first) + at(rest, first);
        }

        private int bestFirstPlace() {
            int best = NONE;
            int bestLength = NO_WAY;
            for (int place = 0; place < SQUARES; place++) {
                if (canStand(place) && isAtChamber(place) && lengthFrom(place) < bestLength) {
                    best = place;
                    bestLength = lengthFrom(place);
                }
            }
            return best;
        }

        private void follow(int first) {
            int place = first;
            while (place != NONE && places < SQUARES) {
                put(path, places, place);
                places++;
                place = nextPlace(place);
            }
        }

        /** The one with the lowest number of those that a least way goes on to; NONE at the latter chamber. */
        private int nextPlace(int place) {
            int x = place % COLUMNS;
            int y = place / COLUMNS;
            int length = at(rest, place) - 1;
            if (length <= 0) {
                return NONE;
            }
            int up = place - COLUMNS;
            int toLeft = place - 1;
            int toRight = place + 1;
            int below = place + COLUMNS;
            if (y > 0 && at(rest, up) + COST * at(across, up) == length) {
                return up;
            }
            if (x > 0 && at(rest, toLeft) + COST * at(down, toLeft) == length) {
                return toLeft;
            }
            if (x + 1 < COLUMNS && at(rest, toRight) + COST * at(down, toRight + width - 1) == length) {
                return toRight;
            }
            if (y + 1 < ROWS && at(rest, below) + COST * at(across, below + (width - 1) * COLUMNS) == length) {
                return below;
            }
            return NONE;
        }

        // ---- digging and filling

        /** Digs the way found last, if it was found on this plan; answers how many squares are dug by that. */
        int digFound(Plan plan) {
            clearMarks(needed);
            needFound();
            return changeSquares(plan, true, ROCK, DUG);
        }

        /** Digs corridors for all, each time the cheapest one that is missing; answers how many. */
        int digForAll(Plan plan) {
            int dug = 0;
            while (dug < PAIRS && digCheapest(plan)) {
                dug++;
            }
            return dug;
        }

        private boolean digCheapest(Plan plan) {
            int least = NONE;
            int former = NONE;
            int latter = NONE;
            for (int one = 0; one < CHAMBERS; one++) {
                for (int other = one + 1; other < CHAMBERS; other++) {
                    int cost = plan.isWalked(one, other) ? find(plan, one, other) : NONE;
                    if (cost > 0 && (least == NONE || cost < least)) {
                        least = cost;
                        former = one;
                        latter = other;
                    }
                }
            }
            if (least == NONE) {
                return false;
            }
            find(plan, former, latter);
            digFound(plan);
            return true;
        }

        /** Fills all that no open least way of a walked pair needs; answers how many squares become rock. */
        int fillUnneeded(Plan plan) {
            clearMarks(needed);
            for (int one = 0; one < CHAMBERS; one++) {
                for (int other = one + 1; other < CHAMBERS; other++) {
                    if (plan.isWalked(one, other) && find(plan, one, other) == 0) {
                        needFound();
                    }
                }
            }
            return changeSquares(plan, false, DUG, ROCK);
        }

        private void needFound() {
            for (int index = 0; index < places; index++) {
                needPlace(at(path, index));
            }
        }

        private void needPlace(int place) {
            for (int row = 0; row < width; row++) {
                for (int column = 0; column < width; column++) {
                    int number = place + row * COLUMNS + column;
                    if (number >= 0 && number < needed.length) {
                        needed[number] = true;
                    }
                }
            }
        }

        private int changeSquares(Plan plan, boolean ifNeeded, int from, int to) {
            int changed = 0;
            for (int number = 0; number < needed.length; number++) {
                int x = number % COLUMNS;
                int y = number / COLUMNS;
                if (needed[number] == ifNeeded && plan.squareAt(x, y) == from) {
                    plan.changeSquare(x, y, to);
                    changed++;
                }
            }
            return changed;
        }

        // ---- what is missing

        int closedFrom(Plan plan, int room) {
            int closed = 0;
            for (int other = 0; other < CHAMBERS; other++) {
                if (plan.isWalked(room, other) && find(plan, room, other) != 0) {
                    closed++;
                }
            }
            return closed;
        }

        int closedPairs(Plan plan) {
            int closed = 0;
            for (int one = 0; one < CHAMBERS; one++) {
                for (int other = one + 1; other < CHAMBERS; other++) {
                    if (plan.isWalked(one, other) && find(plan, one, other) != 0) {
                        closed++;
                    }
                }
            }
            return closed;
        }

        int missingCost(Plan plan) {
            int sum = 0;
            for (int one = 0; one < CHAMBERS; one++) {
                for (int other = one + 1; other < CHAMBERS; other++) {
                    if (plan.isWalked(one, other)) {
                        sum += Math.max(0, find(plan, one, other));
                    }
                }
            }
            return sum;
        }
    }

    /** The saved states, the latest last; the oldest one gives its room to a new one. */
    private static final class Saved {
        private final Plan[] plans = new Plan[MOST_SAVED];
        private int next = 0;
        private int size = 0;

        Saved() {
            for (int i = 0; i < plans.length; i++) {
                plans[i] = new Plan();
            }
        }

        int size() {
            return size;
        }

        private Plan planAt(int index) {
            return index >= 0 && index < plans.length ? plans[index] : null;
        }

        void push(Plan plan) {
            Plan kept = planAt(next);
            if (kept != null) {
                kept.copyFrom(plan);
                next = (next + 1) % MOST_SAVED;
                size = Math.min(size + 1, MOST_SAVED);
            }
        }

        void popInto(Plan plan) {
            int latest = (next + MOST_SAVED - 1) % MOST_SAVED;
            Plan kept = planAt(latest);
            if (kept != null && size > 0) {
                plan.copyFrom(kept);
                next = latest;
                size--;
            }
        }
    }

    /** The buffer, and the order that was read last from it. */
    private static final class Orders {
        /** The deed of an order to dig; the deeds 0 to 3 are the widths of who walks. */
        private static final int CARVE = 4;

        private final int[] codes = new int[MOST_CHARACTERS];
        private int length = 0;
        private int one = NONE;
        private int other = NONE;
        private int deed = NONE;
        private boolean whole = false;

        int length() {
            return length;
        }

        /** 0, which no character has, if there is none. */
        int codeAt(int index) {
            return index >= 0 && index < length ? at(codes, index) : 0;
        }

        void add(int code) {
            if (length < codes.length) {
                put(codes, length, code);
                length++;
            }
        }

        void clear() {
            length = 0;
        }

        int one() {
            return one;
        }

        int other() {
            return other;
        }

        int deed() {
            return deed;
        }

        /** The index of the first character that cannot be read as orders, or the length. */
        int readableLength() {
            int end = readOrder(0);
            for (int read = 1; read < MOST_CHARACTERS && whole && codeAt(end) == ';'; read++) {
                end = readOrder(end + 1);
            }
            return end;
        }

        boolean areOrders() {
            return readableLength() == length && whole;
        }

        /** Reads the order that begins at an index; answers the index behind the characters of it that are right. */
        int readOrder(int start) {
            whole = false;
            one = letterAt(start);
            if (one == NONE) {
                return start;
            }
            other = letterAt(start + 1);
            if (other == NONE || other == one) {
                return start + 1;
            }
            return codeAt(start + 2) == ':' ? readDeed(start + 3) : start + 2;
        }

        private int letterAt(int index) {
            int code = codeAt(index);
            return code >= 'A' && code < 'A' + CHAMBERS ? code - 'A' : NONE;
        }

        private int readDeed(int start) {
            deed = deedBeginningWith(codeAt(start));
            String word = wordOf(deed);
            int right = 0;
            while (right < word.length() && codeAt(start + right) == word.charAt(right)) {
                right++;
            }
            whole = right > 0 && right == word.length();
            return start + right;
        }

        private static int deedBeginningWith(int code) {
            switch (code) {
                case 'n':
                    return 0;
                case 'o':
                    return 1;
                case 'p':
                    return 2;
                case 'c':
                    return 3;
                case '!':
                    return CARVE;
                default:
                    return NONE;
            }
        }

        private static String wordOf(int deed) {
            switch (deed) {
                case 0:
                    return "none";
                case 1:
                    return "one";
                case 2:
                    return "pair";
                case 3:
                    return "cart";
                case CARVE:
                    return "!";
                default:
                    return "";
            }
        }
    }
}
