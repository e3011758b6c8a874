import java.util.Arrays;

/** Strips and rings of spins; ../shared/DOC.md says what each call does, as numbered promises. */
public final class SpinStrips {
    /** There is no such cell. */
    public static final int UNKNOWN = -1001;
    /** Another argument is out of range. */
    public static final int BAD_VALUE = -1002;
    /** There is no more room. */
    public static final int FULL = -1003;
    /** This is not possible. */
    public static final int NOT_POSSIBLE = -1004;
    /** There is no such thing; not an error. */
    public static final int NONE = -1005;

    private static final int MOST_COLUMNS = 10;
    private static final int MOST_ROWS = 3;
    private static final int MOST_CELLS = MOST_COLUMNS * MOST_ROWS;
    private static final int MOST_PULL = 2;
    private static final int MOST_FIELD = 3;
    private static final int MOST_SWEEPS = 50;
    private static final int MOST_TEXT = 60;
    private static final int MOST_HISTORY = 4;
    private static final int LEAST_HUNDREDTHS = 50;
    private static final int MOST_HUNDREDTHS = 100;
    private static final int FEWEST_COLUMNS_OF_A_RING = 3;
    private static final int TEXT_FAULT = -1100;
    private static final int NO_FAULT = -1;

    // A column of spins is told by its bits, 2^row for each spin up, so there are so many kinds of columns.
    private static final int MOST_KINDS = 1 << MOST_ROWS;

    // Cells are bits of a long. Each column has one bit more than it can have rows; that bit is never a cell,
    // so a shift by one row cannot slip into the column beside it.
    private static final int COLUMN_BITS = MOST_ROWS + 1;

    // All pulls and fields at their greatest size: 30 pairs along, 20 across, 30 fields.
    private static final int MOST_COST =
            MOST_CELLS * MOST_PULL + MOST_COLUMNS * (MOST_ROWS - 1) * MOST_PULL + MOST_CELLS * MOST_FIELD;

    private static final int MANTISSA = 1 << 23;
    private static final int EXPONENT_OF_ONE = 127;
    private static final int GREATEST_EXPONENT = 254;
    private static final int SIGN_BIT = 1 << 31;

    private final Strip strip = new Strip();
    private final AllStrips all = new AllStrips();
    private final History history = new History();
    private final Strip snapshot = new Strip();
    private boolean kept = false;
    private final Text text = new Text();

    public SpinStrips() {
    }

    // ---- the strip

    public int lay(int columns, int rows, boolean ring) {
        if (columns < 1 || columns > MOST_COLUMNS || rows < 1 || rows > MOST_ROWS) {
            return BAD_VALUE;
        }
        history.record(strip);
        strip.remake(columns, rows, ring);
        all.forget();
        return columns * rows;
    }

    public int read() {
        int fault = text.firstFault();
        if (fault != NO_FAULT) {
            return TEXT_FAULT - fault;
        }
        history.record(strip);
        strip.remake(text.columns, text.rows, strip.ring);
        strip.ups = text.ups;
        all.forget();
        return text.columns * text.rows;
    }

    public int close(boolean ring) {
        if (ring == strip.ring) {
            return NONE;
        }
        history.record(strip);
        strip.ring = ring;
        all.forget();
        return strip.energy();
    }

    public int setPull(boolean across, int pull) {
        if (pull < -MOST_PULL || pull > MOST_PULL) {
            return BAD_VALUE;
        }
        int previous = across ? strip.across : strip.along;
        if (pull == previous) {
            return NONE;
        }
        history.record(strip);
        if (across) {
            strip.across = pull;
        } else {
            strip.along = pull;
        }
        all.forget();
        return previous;
    }

    public int setField(int row, int column, int field) {
        if (!strip.has(row, column)) {
            return UNKNOWN;
        }
        if (field < -MOST_FIELD || field > MOST_FIELD) {
            return BAD_VALUE;
        }
        int previous = strip.fieldAt(row, column);
        if (field == previous) {
            return NONE;
        }
        history.record(strip);
        strip.putField(row, column, field);
        all.forget();
        return previous;
    }

    // ---- turning

    public int turn(int row, int column) {
        if (!strip.has(row, column)) {
            return UNKNOWN;
        }
        history.record(strip);
        strip.flip(Strip.bit(row, column));
        return strip.energy();
    }

    public int turnPatch(int row, int column) {
        if (!strip.has(row, column)) {
            return UNKNOWN;
        }
        history.record(strip);
        long patch = strip.patchOf(Strip.bit(row, column));
        strip.flip(patch);
        return Long.bitCount(patch);
    }

    public int sweep(int times) {
        if (times < 1 || times > MOST_SWEEPS) {
            return BAD_VALUE;
        }
        // A sweep turns a cell just if there is one with a gain before it starts.
        if (strip.gainingCells() == 0) {
            return NONE;
        }
        history.record(strip);
        int turnedInAll = 0;
        int turnedNow = 1;
        for (int time = 0; time < times && turnedNow > 0; time++) {
            turnedNow = strip.flipGainingCells();
            turnedInAll += turnedNow;
        }
        return turnedInAll;
    }

    public int settle() {
        long leastUps = all.firstWithLeastEnergy(strip);
        if (leastUps == strip.ups) {
            return NONE;
        }
        history.record(strip);
        strip.ups = leastUps;
        return strip.energy();
    }

    // ---- texts

    public int type(char character) {
        return text.append(character) ? text.length : FULL;
    }

    public int clearText() {
        int length = text.length;
        text.length = 0;
        return length;
    }

    // ---- history

    public int undo() {
        if (!history.takeLatest(strip)) {
            return NONE;
        }
        all.forget();
        return history.size;
    }

    public int keep() {
        snapshot.copyFrom(strip);
        kept = true;
        return strip.energy();
    }

    public int restore() {
        if (!kept) {
            return NONE;
        }
        history.record(strip);
        strip.copyFrom(snapshot);
        all.forget();
        return strip.energy();
    }

    // ---- what is told

    public int cell(int row, int column, int what) {
        if (!strip.has(row, column)) {
            return UNKNOWN;
        }
        long one = Strip.bit(row, column);
        switch (what) {
            case 0: return strip.spinAt(row, column);
            case 1: return strip.fieldAt(row, column);
            case 2: return strip.gain(row, column);
            case 3: return reason(strip.gain(row, column));
            case 4: return Long.bitCount(strip.beside(one));
            case 5: return Long.bitCount(strip.beside(one) & strip.alike(one));
            case 6: return Long.bitCount(strip.patchOf(one));
            default: return BAD_VALUE;
        }
    }

    public int column(int column) {
        return strip.has(0, column) ? strip.kindOf(column) : UNKNOWN;
    }

    public int withEnergy(int energy) {
        return all.manyWithEnergy(strip, energy);
    }

    public int withWalls(int walls) {
        return all.manyWithWalls(strip, walls);
    }

    public int withUps(int ups, boolean least) {
        return least ? all.manyOfLeastWithUps(strip, ups) : AllStrips.manyWithUps(strip, ups);
    }

    public int heat(int hundredths, boolean mean) {
        if (hundredths < LEAST_HUNDREDTHS || hundredths > MOST_HUNDREDTHS) {
            return 0;
        }
        float base = (float) hundredths / 100.0f;
        float weights = all.sumOfWeights(strip, base, false);
        if (!mean) {
            return bitsOf(weights);
        }
        // The strips of the least energy have the weight 1, so the sum is never 0.
        return weights > 0.0f ? bitsOf(all.sumOfWeights(strip, base, true) / weights) : 0;
    }

    public int count(int what) {
        switch (what) {
            case 0: return strip.columns;
            case 1: return strip.rows;
            case 2: return strip.ring ? 1 : 0;
            case 3: return strip.energy();
            case 4: return strip.walls();
            case 5: return Long.bitCount(strip.ups);
            case 6: return strip.along;
            case 7: return strip.across;
            case 8: return all.leastEnergy(strip);
            case 9: return all.greatestEnergy(strip);
            case 10: return all.manyWithEnergy(strip, all.leastEnergy(strip));
            case 11: return strip.patches();
            case 12: return strip.gainingCells();
            case 13: return strip.turned;
            case 14: return strip.pairs();
            case 15: return history.size;
            case 16: return text.length;
            default: return BAD_VALUE;
        }
    }

    private static int reason(int gain) {
        if (gain == 0) {
            return 1;
        }
        return gain < 0 ? 2 : 0;
    }

    /**
     * The bits that Float.floatToIntBits tells. LANGUAGE.md has no Float, so they are found by steps that lose
     * nothing: to halve and to double a float is exact here.
     */
    private static int bitsOf(float value) {
        if (value == 0.0f) {
            return 0;
        }
        float size = value < 0.0f ? -value : value;
        int exponent = EXPONENT_OF_ONE;
        while (size >= 2.0f && exponent < GREATEST_EXPONENT) {
            size /= 2.0f;
            exponent++;
        }
        while (size < 1.0f && exponent > 1) {
            size *= 2.0f;
            exponent--;
        }
        // A size below 1 is left only where the exponent can't go lower; such floats have the exponent bits 0.
        int bits = size < 1.0f
                ? (int) (size * (float) MANTISSA)
                : exponent * MANTISSA + (int) ((size - 1.0f) * (float) MANTISSA);
        return value < 0.0f ? bits | SIGN_BIT : bits;
    }

    /** A state: what undo and the snapshot bring back. */
    private static final class Strip {
        private int columns = 6;
        private int rows = 2;
        private boolean ring = false;
        private int along = 1;
        private int across = 1;
        private long cells = allCells(columns, rows);
        private long ups = cells;
        private int turned = 0;
        private final int[] fields = new int[MOST_COLUMNS * COLUMN_BITS];

        static int place(int row, int column) {
            return column * COLUMN_BITS + row;
        }

        static long bit(int row, int column) {
            return 1L << place(row, column);
        }

        private static long allCells(int columns, int rows) {
            long cells = 0L;
            for (int column = 0; column < columns; column++) {
                cells |= ((1L << rows) - 1L) << place(0, column);
            }
            return cells;
        }

        boolean has(int row, int column) {
            return row >= 0 && row < rows && column >= 0 && column < columns;
        }

        /** Whether the last column and the first one are neighbours. */
        boolean closed() {
            return ring && columns >= FEWEST_COLUMNS_OF_A_RING;
        }

        void copyFrom(Strip other) {
            columns = other.columns;
            rows = other.rows;
            ring = other.ring;
            along = other.along;
            across = other.across;
            cells = other.cells;
            ups = other.ups;
            turned = other.turned;
            System.arraycopy(other.fields, 0, fields, 0, fields.length);
        }

        /** All spins up and all fields 0; the pulls stay. */
        void remake(int newColumns, int newRows, boolean newRing) {
            columns = newColumns;
            rows = newRows;
            ring = newRing;
            cells = allCells(columns, rows);
            ups = cells;
            Arrays.fill(fields, 0);
        }

        int spinAt(int row, int column) {
            return (ups & bit(row, column)) != 0L ? 1 : -1;
        }

        int fieldAt(int row, int column) {
            return has(row, column) ? fields[place(row, column)] : 0;
        }

        void putField(int row, int column, int field) {
            if (has(row, column)) {
                fields[place(row, column)] = field;
            }
        }

        int kindOf(int column) {
            return (int) (ups >>> place(0, column)) & ((1 << rows) - 1);
        }

        void flip(long some) {
            ups ^= some;
            turned += Long.bitCount(some);
        }

        private long besideAlong(long some) {
            long beside = some << COLUMN_BITS | some >>> COLUMN_BITS;
            if (closed()) {
                int round = place(0, columns - 1);
                beside |= some << round | some >>> round;
            }
            return beside & cells;
        }

        private long besideAcross(long some) {
            return (some << 1 | some >>> 1) & cells;
        }

        long beside(long some) {
            return besideAlong(some) | besideAcross(some);
        }

        /** All cells with the same spin as the one cell. */
        long alike(long one) {
            return (ups & one) != 0L ? ups : cells & ~ups;
        }

        private int spinSum(long some) {
            return 2 * Long.bitCount(some & ups) - Long.bitCount(some);
        }

        /** What the neighbours of a cell add up to, each as strong as the pull of its way. */
        private int pullOfNeighbours(long one) {
            return along * spinSum(besideAlong(one)) + across * spinSum(besideAcross(one));
        }

        int gain(int row, int column) {
            int pull = pullOfNeighbours(bit(row, column)) + fieldAt(row, column);
            return -2 * spinAt(row, column) * pull;
        }

        int energy() {
            int ofPulls = 0;
            int ofFields = 0;
            for (int column = 0; column < columns; column++) {
                for (int row = 0; row < rows; row++) {
                    int spin = spinAt(row, column);
                    ofPulls += spin * pullOfNeighbours(bit(row, column));
                    ofFields += spin * fieldAt(row, column);
                }
            }
            // Each pair has been met from both of its cells.
            return -(ofPulls / 2 + ofFields);
        }

        int walls() {
            int ends = 0;
            for (int column = 0; column < columns; column++) {
                for (int row = 0; row < rows; row++) {
                    long one = bit(row, column);
                    ends += Long.bitCount(beside(one) & ~alike(one));
                }
            }
            return ends / 2;
        }

        int pairs() {
            int ends = 0;
            for (int column = 0; column < columns; column++) {
                for (int row = 0; row < rows; row++) {
                    ends += Long.bitCount(beside(bit(row, column)));
                }
            }
            return ends / 2;
        }

        long patchOf(long one) {
            long like = alike(one);
            long patch = one;
            long before = 0L;
            for (int step = 0; step < MOST_CELLS && patch != before; step++) {
                before = patch;
                patch |= beside(patch) & like;
            }
            return patch;
        }

        int patches() {
            int patches = 0;
            long seen = 0L;
            for (int column = 0; column < columns; column++) {
                for (int row = 0; row < rows; row++) {
                    long one = bit(row, column);
                    if ((seen & one) == 0L) {
                        seen |= patchOf(one);
                        patches++;
                    }
                }
            }
            return patches;
        }

        int gainingCells() {
            int cells = 0;
            for (int column = 0; column < columns; column++) {
                for (int row = 0; row < rows; row++) {
                    if (gain(row, column) > 0) {
                        cells++;
                    }
                }
            }
            return cells;
        }

        /** One sweep; tells how many cells it has turned. */
        int flipGainingCells() {
            int before = turned;
            for (int column = 0; column < columns; column++) {
                for (int row = 0; row < rows; row++) {
                    if (gain(row, column) > 0) {
                        flip(bit(row, column));
                    }
                }
            }
            return turned - before;
        }
    }

    /** The latest states; the oldest one makes room where one more comes. */
    private static final class History {
        private final Strip[] states = new Strip[MOST_HISTORY];
        private int oldest = 0;
        private int size = 0;

        History() {
            for (int index = 0; index < MOST_HISTORY; index++) {
                states[index] = new Strip();
            }
        }

        void record(Strip strip) {
            if (size == MOST_HISTORY) {
                oldest = (oldest + 1) % MOST_HISTORY;
                size--;
            }
            states[(oldest + size) % MOST_HISTORY].copyFrom(strip);
            size++;
        }

        boolean takeLatest(Strip into) {
            if (size == 0) {
                return false;
            }
            size--;
            into.copyFrom(states[(oldest + size) % MOST_HISTORY]);
            return true;
        }
    }

    /** The text, and the strip in it: columns, rows and ups hold just where there is no fault. */
    private static final class Text {
        private final char[] characters = new char[MOST_TEXT];
        private int length = 0;
        private int columns = 0;
        private int rows = 0;
        private long ups = 0L;

        boolean append(char character) {
            if (length >= MOST_TEXT) {
                return false;
            }
            characters[length] = character;
            length++;
            return true;
        }

        int firstFault() {
            columns = 1;
            rows = 0;
            ups = 0L;
            int row = 0;
            for (int index = 0; index < length; index++) {
                char character = characters[index];
                if (character == ',' && isWhole(row) && columns < MOST_COLUMNS) {
                    rows = row;
                    columns++;
                    row = 0;
                } else if ((character == '+' || character == '-') && row < rowsAllowed()) {
                    if (character == '+') {
                        ups |= Strip.bit(row, columns - 1);
                    }
                    row++;
                } else {
                    return index;
                }
            }
            if (!isWhole(row)) {
                return length;
            }
            rows = row;
            return NO_FAULT;
        }

        /** Whether the column that is read may end behind so many rows; the first one says how many there are. */
        private boolean isWhole(int row) {
            return columns == 1 ? row > 0 : row == rows;
        }

        private int rowsAllowed() {
            return columns == 1 ? MOST_ROWS : rows;
        }
    }

    /**
     * What columns of each kind cost. The cost of a strip is the sum of the sizes of all pulls and fields that its
     * spins go against, and the reach is the sum of all these sizes, so that the energy is twice the cost less the
     * reach. Costs are never below 0: rows of sums can have them as indexes. Where each pull is 1 and there is no
     * field, the cost is the number of walls.
     */
    private static final class Prices {
        private int columns = 1;
        private int rows = 1;
        private int kinds = 2;
        private boolean closed = false;
        private int wholeReach = 0;
        private final int[] reachUpTo = new int[MOST_COLUMNS];
        private final int[][] inside = new int[MOST_COLUMNS][MOST_KINDS];
        private final int[][] between = new int[MOST_KINDS][MOST_KINDS];

        void takeFrom(Strip strip, boolean justWalls) {
            columns = strip.columns;
            rows = strip.rows;
            kinds = 1 << rows;
            closed = strip.closed();
            int along = justWalls ? 1 : strip.along;
            int across = justWalls ? 1 : strip.across;
            priceAlong(along);
            priceAcross(across);
            int reachAlong = rows * Math.abs(along);
            int reachAcross = (rows - 1) * Math.abs(across);
            int soFar = 0;
            for (int column = 0; column < columns; column++) {
                soFar += column == 0 ? reachAcross : reachAcross + reachAlong;
                if (!justWalls) {
                    soFar += priceFields(strip, column);
                }
                reachUpTo[column] = soFar;
            }
            wholeReach = closed ? soFar + reachAlong : soFar;
        }

        private void priceAlong(int pull) {
            for (int kind = 0; kind < kinds; kind++) {
                for (int next = 0; next < kinds; next++) {
                    between[kind][next] = price(pull, Integer.bitCount(kind ^ next), rows);
                }
            }
        }

        private void priceAcross(int pull) {
            int pairs = rows - 1;
            for (int kind = 0; kind < kinds; kind++) {
                int unlike = Integer.bitCount((kind ^ (kind >> 1)) & ((1 << pairs) - 1));
                for (int column = 0; column < columns; column++) {
                    inside[column][kind] = price(pull, unlike, pairs);
                }
            }
        }

        /** Adds the fields of a column to what it costs; tells their reach. */
        private int priceFields(Strip strip, int column) {
            int reach = 0;
            for (int row = 0; row < rows; row++) {
                int field = strip.fieldAt(row, column);
                for (int kind = 0; kind < kinds; kind++) {
                    boolean up = ((kind >> row) & 1) == 1;
                    if (up ? field < 0 : field > 0) {
                        inside[column][kind] += Math.abs(field);
                    }
                }
                reach += Math.abs(field);
            }
            return reach;
        }

        private static int price(int pull, int unlike, int pairs) {
            return pull < 0 ? -pull * (pairs - unlike) : pull * unlike;
        }

        /** What the seam of a ring costs. */
        int seam(int last, int first) {
            return closed ? between[last][first] : 0;
        }

        /** The kinds in the order of the least first strip: a down in row 0 counts most, then one in row 1. */
        int kindInOrder(int place) {
            int kind = 0;
            for (int row = 0; row < rows; row++) {
                kind = (kind << 1) | ((place >> row) & 1);
            }
            return kind;
        }
    }

    /** How many strips have each cost, by rows of sums for each kind of the last column so far. */
    private static final class Sums {
        private int[][] now = new int[MOST_KINDS][MOST_COST + 1];
        private int[][] next = new int[MOST_KINDS][MOST_COST + 1];

        void fill(int[] many, Prices prices) {
            Arrays.fill(many, 0);
            if (!prices.closed) {
                addStrips(many, prices, 0, prices.kinds);
                return;
            }
            // The seam needs the first column, so a ring goes through once for each kind of that.
            for (int first = 0; first < prices.kinds; first++) {
                addStrips(many, prices, first, first + 1);
            }
        }

        /** Adds all strips whose first column is of a kind from the first one told to that before the end. */
        private void addStrips(int[] many, Prices prices, int first, int end) {
            begin(prices, first, end);
            for (int column = 1; column < prices.columns; column++) {
                addColumn(prices, column);
            }
            for (int kind = 0; kind < prices.kinds; kind++) {
                addShifted(now[kind], prices.reachUpTo[prices.columns - 1], prices.seam(kind, first), many);
            }
        }

        private void begin(Prices prices, int first, int end) {
            for (int kind = 0; kind < prices.kinds; kind++) {
                Arrays.fill(now[kind], 0);
                int cost = prices.inside[0][kind];
                if (kind >= first && kind < end && cost < now[kind].length) {
                    now[kind][cost] = 1;
                }
            }
        }

        private void addColumn(Prices prices, int column) {
            for (int kind = 0; kind < prices.kinds; kind++) {
                Arrays.fill(next[kind], 0);
                for (int before = 0; before < prices.kinds; before++) {
                    int cost = prices.between[before][kind] + prices.inside[column][kind];
                    addShifted(now[before], prices.reachUpTo[column - 1], cost, next[kind]);
                }
            }
            int[][] spare = now;
            now = next;
            next = spare;
        }

        /** Adds a row, up to the index of its reach, to another one, by the shift further on. */
        static void addShifted(int[] from, int reach, int shift, int[] to) {
            for (int index = 0; index <= reach && index < from.length && index + shift < to.length; index++) {
                to[index + shift] += from[index];
            }
        }
    }

    /** The least cost, the first strip that has it, and how many that have it have so many spins up. */
    private static final class Least {
        // What the columns behind each column cost at least, by the kind of that column.
        private final int[][] behind = new int[MOST_COLUMNS][MOST_KINDS];
        private int[][] now = new int[MOST_KINDS][MOST_CELLS + 1];
        private int[][] next = new int[MOST_KINDS][MOST_CELLS + 1];

        long firstStrip(Prices prices) {
            int least = leastCost(prices);
            for (int place = 0; place < prices.kinds; place++) {
                int first = prices.kindInOrder(place);
                if (lookBehind(prices, first) == least) {
                    return follow(prices, first);
                }
            }
            return 0L;
        }

        void fillUps(int[] many, Prices prices) {
            Arrays.fill(many, 0);
            int least = leastCost(prices);
            for (int first = 0; first < prices.kinds; first++) {
                if (lookBehind(prices, first) == least) {
                    addUps(many, prices, first);
                }
            }
        }

        private int leastCost(Prices prices) {
            int least = lookBehind(prices, 0);
            for (int first = 1; first < prices.kinds; first++) {
                least = Math.min(least, lookBehind(prices, first));
            }
            return least;
        }

        /** Fills what is behind, for strips with this first column; tells what such a strip costs at least. */
        private int lookBehind(Prices prices, int first) {
            int last = prices.columns - 1;
            for (int kind = 0; kind < prices.kinds; kind++) {
                behind[last][kind] = prices.seam(kind, first);
            }
            for (int column = last - 1; column >= 0; column--) {
                for (int kind = 0; kind < prices.kinds; kind++) {
                    int least = costOfNext(prices, column, kind, 0);
                    for (int other = 1; other < prices.kinds; other++) {
                        least = Math.min(least, costOfNext(prices, column, kind, other));
                    }
                    behind[column][kind] = least;
                }
            }
            return prices.inside[0][first] + behind[0][first];
        }

        /** What all columns behind this one cost at least if the next one is of that kind. */
        private int costOfNext(Prices prices, int column, int kind, int nextKind) {
            if (column < 0 || column + 1 >= prices.columns) {
                return 0;
            }
            return prices.between[kind][nextKind] + prices.inside[column + 1][nextKind] + behind[column + 1][nextKind];
        }

        private boolean isLeast(Prices prices, int column, int kind, int nextKind) {
            return costOfNext(prices, column, kind, nextKind) == behind[column][kind];
        }

        private long follow(Prices prices, int first) {
            long ups = first;
            int kind = first;
            for (int column = 0; column < prices.columns - 1; column++) {
                kind = firstLeastNext(prices, column, kind);
                ups |= (long) kind << Strip.place(0, column + 1);
            }
            return ups;
        }

        private int firstLeastNext(Prices prices, int column, int kind) {
            for (int place = 0; place < prices.kinds; place++) {
                int nextKind = prices.kindInOrder(place);
                if (isLeast(prices, column, kind, nextKind)) {
                    return nextKind;
                }
            }
            return 0;
        }

        private void addUps(int[] many, Prices prices, int first) {
            for (int kind = 0; kind < prices.kinds; kind++) {
                Arrays.fill(now[kind], 0);
            }
            now[first][Integer.bitCount(first)] = 1;
            for (int column = 0; column < prices.columns - 1; column++) {
                addColumn(prices, column);
            }
            for (int kind = 0; kind < prices.kinds; kind++) {
                Sums.addShifted(now[kind], MOST_CELLS, 0, many);
            }
        }

        private void addColumn(Prices prices, int column) {
            for (int kind = 0; kind < prices.kinds; kind++) {
                Arrays.fill(next[kind], 0);
            }
            for (int kind = 0; kind < prices.kinds; kind++) {
                for (int nextKind = 0; nextKind < prices.kinds; nextKind++) {
                    if (isLeast(prices, column, kind, nextKind)) {
                        Sums.addShifted(now[kind], MOST_CELLS, Integer.bitCount(nextKind), next[nextKind]);
                    }
                }
            }
            int[][] spare = now;
            now = next;
            next = spare;
        }
    }

    /** What is told of all strips; the rows are kept until the shape, a pull or a field changes. */
    private static final class AllStrips {
        private final Prices prices = new Prices();
        private final Prices wallPrices = new Prices();
        private final Sums sums = new Sums();
        private final Least least = new Least();
        private final int[] manyByCost = new int[MOST_COST + 1];
        private final int[] manyByWalls = new int[MOST_COST + 1];
        private final int[] manyOfLeastByUps = new int[MOST_CELLS + 1];
        private int leastCost = 0;
        private int greatestCost = 0;
        private boolean costsKnown = false;
        private boolean wallsKnown = false;
        private boolean leastUpsKnown = false;

        void forget() {
            costsKnown = false;
            wallsKnown = false;
            leastUpsKnown = false;
        }

        int manyWithEnergy(Strip strip, int energy) {
            learnCosts(strip);
            return manyAtEnergy(energy);
        }

        int manyWithWalls(Strip strip, int walls) {
            if (!wallsKnown) {
                wallPrices.takeFrom(strip, true);
                sums.fill(manyByWalls, wallPrices);
                wallsKnown = true;
            }
            return at(manyByWalls, walls);
        }

        int manyOfLeastWithUps(Strip strip, int ups) {
            if (!leastUpsKnown) {
                prices.takeFrom(strip, false);
                least.fillUps(manyOfLeastByUps, prices);
                leastUpsKnown = true;
            }
            return at(manyOfLeastByUps, ups);
        }

        /** How many ways there are to choose the cells that are up. */
        static int manyWithUps(Strip strip, int ups) {
            int cells = strip.columns * strip.rows;
            if (ups < 0 || ups > cells) {
                return 0;
            }
            long many = 1L;
            for (int chosen = 1; chosen <= ups; chosen++) {
                many = many * (cells - chosen + 1) / chosen;
            }
            return (int) many;
        }

        int leastEnergy(Strip strip) {
            learnCosts(strip);
            return energyOf(leastCost);
        }

        int greatestEnergy(Strip strip) {
            learnCosts(strip);
            return energyOf(greatestCost);
        }

        long firstWithLeastEnergy(Strip strip) {
            prices.takeFrom(strip, false);
            return least.firstStrip(prices);
        }

        /** The sum of weights, each times its energy if that is asked for. */
        float sumOfWeights(Strip strip, float base, boolean timesEnergy) {
            learnCosts(strip);
            int greatest = energyOf(greatestCost);
            float weight = 1.0f;
            float sum = 0.0f;
            for (int energy = energyOf(leastCost); energy <= greatest; energy++) {
                float part = (float) manyAtEnergy(energy) * weight;
                sum += timesEnergy ? part * (float) energy : part;
                weight *= base;
            }
            return sum;
        }

        private void learnCosts(Strip strip) {
            if (costsKnown) {
                return;
            }
            prices.takeFrom(strip, false);
            sums.fill(manyByCost, prices);
            leastCost = 0;
            while (leastCost < MOST_COST && manyByCost[leastCost] == 0) {
                leastCost++;
            }
            greatestCost = MOST_COST;
            while (greatestCost > 0 && manyByCost[greatestCost] == 0) {
                greatestCost--;
            }
            costsKnown = true;
        }

        private int energyOf(int cost) {
            return 2 * cost - prices.wholeReach;
        }

        private int manyAtEnergy(int energy) {
            int reach = prices.wholeReach;
            boolean odd = ((energy + reach) & 1) == 1;
            if (odd || energy < -reach || energy > reach) {
                return 0;
            }
            return at(manyByCost, (energy + reach) / 2);
        }

        private static int at(int[] row, int index) {
            return index >= 0 && index < row.length ? row[index] : 0;
        }
    }
}
