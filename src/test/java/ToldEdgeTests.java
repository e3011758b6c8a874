/** The boundary cases of "ALL STRIPS" and of promises 16 to 22; each test names the sentence that it is for. */
public final class ToldEdgeTests {
    private static final int MIN = Integer.MIN_VALUE;
    private static final int MAX = Integer.MAX_VALUE;
    private static final int ALL_OF_30 = 1 << 30;
    private static final String BOARD = "+-+,-+-,+-+,-+-,+-+,-+-,+-+,-+-,+-+,-+-";
    private static final Due D = new Due();

    public static void main(String[] args) {
        whatOfACell();
        whatOfACellOutOfRange();
        cellsThatAreNot();
        unknownBeforeBadValue();
        spinsOfACell();
        fieldsOfACell();
        neighboursFrom0To4();
        likeNeighboursFrom0To4();
        patchesFrom1To30();
        columnsThatAreNot();
        columnsAsBits();
        columnsOfFewRows();
        twoToThePowerOfTheCells();
        energiesAroundTheLeastAndTheGreatest();
        energiesOfOneCell();
        energiesFarAway();
        energiesWithTheSeam();
        energiesWhateverTheSpinsAre();
        wallsAround0AndAllPairs();
        wallsOfOneCell();
        wallsOfTheGreatestRing();
        wallsAskedFirst();
        wallsFarAway();
        upsAround0AndAllCells();
        upsOfTheLeastAroundTheEnds();
        upsOfTheLeastInAll();
        upsAskedFirst();
        upsFarAway();
        upsOfTheLeastOverTheSeam();
        hundredthsFrom50To100();
        hundredthsOutOfRange();
        weightOfTheLeastIs1();
        weightsByHalfAndByOne();
        weightsInRisingOrder();
        weightsOfAllStripsAtOneEnergy();
        meanOf0();
        whatOfTheCount();
        whatOfTheCountOutOfRange();
        theLeastAndTheGreatestCounts();
        countsOfTheLeastAndTheGreatestEnergy();
        wouldBeTurned();
        turnedEachTime();
        whatIsToldChangesNothing();
        D.end();
    }

    private static void whatOfACell() {
        int[] want = {1, 0, -6, 2, 3, 3, 12};
        for (int what = 0; what <= 6; what++) {
            D.due("16: what: 0 to 6: " + what, Starts.fresh().cell(0, 1, what), want[what]);
        }
    }

    private static void whatOfACellOutOfRange() {
        for (int what : new int[] {-1, 7, -2, 8, MIN, MAX, 1 << 8, 65536, 1 << 30}) {
            D.refused("16: BAD_VALUE: what " + what, Starts::fresh, x -> x.cell(0, 0, what), -1002);
            D.refused("16: BAD_VALUE: what " + what + " of a busy one", Starts::busy, x -> x.cell(2, 4, what), -1002);
        }
    }

    private static int[][] noCells(int columns, int rows) {
        return new int[][] {{-1, 0}, {rows, 0}, {0, -1}, {0, columns}, {rows - 1, columns}, {rows, columns - 1},
            {-1, -1}, {rows, columns}, {MIN, 0}, {MAX, 0}, {0, MIN}, {0, MAX}, {MIN, MIN}, {MAX, MAX}, {-4, 1}, {4, -1},
            {4, 0}, {-3, 1}, {3, -1}, {0, 1 << 30}, {1 << 30, 0}};
    }

    private static void cellsThatAreNot() {
        for (int[] at : noCells(5, 3)) {
            for (int what = 0; what <= 6; what++) {
                int w = what;
                D.refused("16: UNKNOWN: " + at[0] + ", " + at[1] + ", what " + what, Starts::busy,
                        x -> x.cell(at[0], at[1], w), -1001);
            }
        }
        for (int[] at : noCells(1, 1)) {
            D.due("16: UNKNOWN of one cell: " + at[0] + ", " + at[1], Starts.laid(1, 1, true).cell(at[0], at[1], 0), -1001);
        }
    }

    private static void unknownBeforeBadValue() {
        for (int[] at : noCells(5, 3)) {
            for (int what : new int[] {-1, 7, MIN, MAX}) {
                D.refused("16: UNKNOWN before BAD_VALUE: " + at[0] + ", " + at[1] + ", what " + what, Starts::busy,
                        x -> x.cell(at[0], at[1], what), -1001);
            }
        }
    }

    private static void spinsOfACell() {
        SpinStrips x = Due.read("+-+,--+", false);
        int[] want = {1, -1, 1, -1, -1, 1};
        for (int cell = 0; cell < 6; cell++) {
            D.due("Terms: each cell has a spin, up (1) or down (-1): " + cell, x.cell(cell % 3, cell / 3, 0), want[cell]);
        }
    }

    private static void fieldsOfACell() {
        SpinStrips x = Starts.laid(10, 3, false);
        for (int field = -3; field <= 3; field++) {
            x.setField(0, 0, field);
            x.setField(2, 9, -field);
            D.due("16: its field, the first cell: " + field, x.cell(0, 0, 1), field);
            D.due("16: its field, the last cell: " + -field, x.cell(2, 9, 1), -field);
            D.due("16: the field of the cell beside the first: " + field, x.cell(1, 0, 1), 0);
            D.due("16: the field of the cell beside the last: " + field, x.cell(1, 9, 1), 0);
        }
    }

    private static void neighboursFrom0To4() {
        D.due("16: its neighbours: 0", Starts.laid(1, 1, true).cell(0, 0, 4), 0);
        D.due("16: its neighbours: 1", Starts.laid(2, 1, true).cell(0, 1, 4), 1);
        D.due("16: its neighbours: 2", Starts.laid(3, 1, true).cell(0, 2, 4), 2);
        D.due("16: its neighbours: 3", Starts.laid(10, 3, true).cell(2, 9, 4), 3);
        D.due("16: its neighbours: 4", Starts.laid(10, 3, true).cell(1, 9, 4), 4);
        D.due("16: its neighbours: 4 in the first column", Starts.laid(3, 3, true).cell(1, 0, 4), 4);
        D.due("16: its neighbours, no seam", Starts.laid(3, 3, false).cell(1, 0, 4), 3);
    }

    private static void likeNeighboursFrom0To4() {
        SpinStrips x = Starts.laid(3, 3, true);
        int[][] others = {{1, 1}, {1, 2}, {0, 0}, {2, 0}};
        for (int turned = 0; turned <= 4; turned++) {
            D.due("16: those of them with the same spin: up", x.cell(1, 0, 5), 4 - turned);
            x.turn(1, 0);
            D.due("16: those of them with the same spin: down", x.cell(1, 0, 5), turned);
            x.turn(1, 0);
            if (turned < 4) {
                x.turn(others[turned][0], others[turned][1]);
            }
        }
        D.due("16: those with the same spin: none there", Starts.laid(1, 1, false).cell(0, 0, 5), 0);
    }

    private static void patchesFrom1To30() {
        D.due("16: the size of its patch: 1", Due.read(BOARD, true).cell(2, 9, 6), 1);
        D.due("16: the size of its patch: 30", Starts.laid(10, 3, true).cell(2, 9, 6), 30);
        D.due("16: the size of its patch: 30 of a strip", Starts.laid(10, 3, false).cell(0, 0, 6), 30);
        D.due("16: the size of its patch: one cell", Starts.laid(1, 1, false).cell(0, 0, 6), 1);
        D.due("16: the size of its patch: over the seam", Due.read("-,+,+,-", true).cell(0, 0, 6), 2);
        D.due("16: the size of its patch: no seam", Due.read("-,+,+,-", false).cell(0, 0, 6), 1);
        for (int size = 1; size <= 10; size++) {
            SpinStrips x = Starts.laid(10, 1, false);
            if (size < 10) {
                x.turn(0, size);
            }
            D.due("16: the size of its patch: " + size, x.cell(0, 0, 6), size);
        }
    }

    private static void columnsThatAreNot() {
        for (int columns = 1; columns <= 10; columns++) {
            SpinStrips x = Starts.laid(10, 3, true);
            x.lay(columns, 2, true);
            D.due("17: column 0 of " + columns, x.column(0), 3);
            D.due("17: the last column of " + columns, x.column(columns - 1), 3);
            for (int column : new int[] {-1, columns, columns + 1, MIN, MAX, 1 << 30, 1 << 16}) {
                D.due("17: UNKNOWN: column " + column + " of " + columns, x.column(column), -1001);
            }
        }
        for (int column : new int[] {-1, 5, MIN, MAX}) {
            D.refused("17: UNKNOWN: column " + column, Starts::busy, x -> x.column(column), -1001);
        }
    }

    private static void columnsAsBits() {
        SpinStrips x = Due.read("---,+--,-+-,++-,--+,+-+,-++,+++,---,+++", false);
        int[] want = {0, 1, 2, 3, 4, 5, 6, 7, 0, 7};
        for (int column = 0; column < 10; column++) {
            D.due("17: 2^r for each row r with a spin up: column " + column, x.column(column), want[column]);
        }
    }

    private static void columnsOfFewRows() {
        for (int rows = 1; rows <= 3; rows++) {
            SpinStrips x = Starts.laid(2, rows, false);
            D.due("17: all up, " + rows + " rows", x.column(1), (1 << rows) - 1);
            x.turnPatch(0, 0);
            D.due("17: all down, " + rows + " rows", x.column(1), 0);
            x.turn(rows - 1, 1);
            D.due("17: the last row up, " + rows + " rows", x.column(1), 1 << rows - 1);
            D.due("17: the column beside it, " + rows + " rows", x.column(0), 0);
        }
    }

    private static void twoToThePowerOfTheCells() {
        for (int columns = 1; columns <= 10; columns++) {
            for (int rows = 1; rows <= 3; rows++) {
                SpinStrips x = Starts.laid(columns, rows, columns % 2 == 1);
                x.setField(0, 0, 1);
                x.setField(rows - 1, columns - 1, -2);
                long energies = 0;
                long walls = 0;
                long ups = 0;
                for (int number = -60; number <= 60; number++) {
                    energies += x.withEnergy(number);
                    walls += x.withWalls(number);
                    ups += x.withUps(number, false);
                }
                String of = "Terms: 2 to the power of the number of cells: " + columns + ", " + rows;
                D.due(of + ", energies", energies, 1L << columns * rows);
                D.due(of + ", walls", walls, 1L << columns * rows);
                D.due(of + ", ups", ups, 1L << columns * rows);
            }
        }
    }

    private static void energiesAroundTheLeastAndTheGreatest() {
        SpinStrips least = Starts.whole(2, 3);
        SpinStrips greatest = Starts.whole(-2, -3);
        int[] around = {-193, -192, -191, -190, -189, -188};
        for (int energy : around) {
            D.due("18: around the least: " + energy, least.withEnergy(energy), energy == -190 ? 1 : 0);
            D.due("18: around the greatest: " + -energy, greatest.withEnergy(-energy), energy == -190 ? 1 : 0);
        }
        D.due("18: the least of fields below 0", Starts.whole(2, -3).withEnergy(-190), 1);
        D.due("18: the greatest of fields above 0", Starts.whole(-2, 3).withEnergy(190), 1);
        // To turn a cell at the edge takes 18, one in the middle 22.
        D.due("18: one turned, at the edge", least.withEnergy(-190 + 18), 20);
        SpinStrips x = Starts.fresh();
        int[][] want = {{-18, 0}, {-17, 0}, {-16, 2}, {-15, 0}, {-14, 0}, {14, 0}, {15, 0}, {16, 2}, {17, 0}, {18, 0}};
        for (int[] one : want) {
            D.due("18: of a new object: " + one[0], x.withEnergy(one[0]), one[1]);
        }
    }

    private static void energiesOfOneCell() {
        for (int field = -3; field <= 3; field++) {
            SpinStrips x = Starts.laid(1, 1, true);
            x.setField(0, 0, field);
            for (int energy = -5; energy <= 5; energy++) {
                int want = Math.abs(energy) != Math.abs(field) ? 0 : field == 0 ? 2 : 1;
                D.due("18: one cell, field " + field + ", energy " + energy, x.withEnergy(energy), want);
            }
        }
    }

    private static void energiesFarAway() {
        SpinStrips[] all = {Starts.fresh(), Starts.laid(1, 1, false), Starts.whole(2, 3), Starts.whole(0, 0), Starts.whole(-2, -3)};
        for (SpinStrips x : all) {
            for (int energy : new int[] {MIN, MIN + 1, MIN + 190, MIN + 191, MAX, MAX - 1, MAX - 189, MAX - 190, 191, -191, 192,
                -192, 380, -380, 570, 1000, -1001, -1002, 1 << 30, -(1 << 30), 1 << 16}) {
                D.due("18: any number: " + energy, x.withEnergy(energy), 0);
            }
        }
        for (int energy : new int[] {MIN, MAX, 0, -190}) {
            D.dueText("18: tells, and changes nothing: " + energy, Look.through(asked(energy)), Look.through(Starts.busy()));
        }
    }

    private static SpinStrips asked(int number) {
        SpinStrips x = Starts.busy();
        x.withEnergy(number);
        x.withWalls(number);
        x.withUps(number, false);
        x.withUps(number, true);
        return x;
    }

    private static void energiesWithTheSeam() {
        SpinStrips ring = Starts.laid(3, 1, true);
        int[] ofRing = {2, 0, 0, 0, 6, 0, 0};
        int[] ofStrip = {0, 2, 0, 4, 0, 2, 0};
        for (int energy = -3; energy <= 3; energy++) {
            D.due("18: a ring of 3, energy " + energy, ring.withEnergy(energy), ofRing[energy + 3]);
            D.due("18: a strip of 3, energy " + energy, Starts.laid(3, 1, false).withEnergy(energy), ofStrip[energy + 3]);
            D.due("18: a ring of 2, energy " + energy, Starts.laid(2, 1, true).withEnergy(energy), Math.abs(energy) == 1 ? 2 : 0);
        }
        D.due("18: the greatest ring, its least energy", Starts.laid(10, 3, true).withEnergy(-50), 2);
        D.due("18: the greatest strip, its least energy", Starts.laid(10, 3, false).withEnergy(-47), 2);
        D.due("18: the greatest strip, that of the ring", Starts.laid(10, 3, false).withEnergy(-50), 0);
        D.due("18: the greatest ring, its greatest energy", Starts.laid(10, 3, true).withEnergy(50), 2);
        D.due("18: an odd ring has no board", Starts.laid(9, 3, true).withEnergy(45), 0);
    }

    private static void energiesWhateverTheSpinsAre() {
        SpinStrips x = Starts.busy();
        String all = Look.all(x, 45);
        x.turn(0, 0);
        x.turnPatch(2, 4);
        x.settle();
        D.dueText("Terms: all strips are those with any spins", Look.all(x, 45), all);
    }

    private static void wallsAround0AndAllPairs() {
        for (int columns = 1; columns <= 10; columns++) {
            for (int rows = 1; rows <= 3; rows++) {
                for (boolean ring : new boolean[] {false, true}) {
                    SpinStrips x = Starts.laid(columns, rows, ring);
                    int pairs = x.count(14);
                    boolean odd = ring && columns >= 3 && columns % 2 == 1;
                    String of = "19: " + columns + " columns, " + rows + " rows, " + ring + ", walls ";
                    D.due(of + "-1", x.withWalls(-1), 0);
                    D.due(of + "0", x.withWalls(0), 2);
                    D.due(of + "of all pairs", x.withWalls(pairs), odd ? 0 : 2);
                    D.due(of + "one more", x.withWalls(pairs + 1), 0);
                    D.due(of + "two more", x.withWalls(pairs + 2), 0);
                }
            }
        }
    }

    private static void wallsOfOneCell() {
        SpinStrips x = Starts.laid(1, 1, true);
        D.due("19: one cell, no wall", x.withWalls(0), 2);
        D.due("19: one cell, one wall", x.withWalls(1), 0);
    }

    private static void wallsOfTheGreatestRing() {
        SpinStrips x = Starts.laid(10, 3, true);
        int[][] want = {{-1, 0}, {0, 2}, {1, 0}, {2, 0}, {3, 40}, {47, 40}, {48, 0}, {49, 0}, {50, 2}, {51, 0}, {60, 0}};
        for (int[] one : want) {
            D.due("19: the greatest ring: " + one[0], x.withWalls(one[0]), one[1]);
        }
        x.setPull(false, 0);
        x.setPull(true, -2);
        x.setField(0, 0, 3);
        for (int[] one : want) {
            D.due("19: (whatever the pull is): " + one[0], x.withWalls(one[0]), one[1]);
        }
    }

    private static void wallsAskedFirst() {
        D.due("19: the first call of all", new SpinStrips().withWalls(0), 2);
        D.due("19: the first call of all, all pairs", new SpinStrips().withWalls(16), 2);
        SpinStrips x = new SpinStrips();
        x.withEnergy(0);
        D.due("19: after energies", x.withWalls(16), 2);
        D.due("19: energies after walls", x.withEnergy(-16), 2);
        x.withUps(0, true);
        D.due("19: after ups of the least", x.withWalls(1), 0);
    }

    private static void wallsFarAway() {
        SpinStrips[] all = {Starts.fresh(), Starts.laid(1, 1, false), Starts.whole(2, 3)};
        for (SpinStrips x : all) {
            for (int walls : new int[] {MIN, MIN + 1, MAX, MAX - 1, -2, 51, 61, 190, 191, 192, 1000, -1005, 1 << 30, 1 << 16}) {
                D.due("19: any number: " + walls, x.withWalls(walls), 0);
            }
        }
    }

    private static void upsAround0AndAllCells() {
        for (int columns = 1; columns <= 10; columns++) {
            for (int rows = 1; rows <= 3; rows++) {
                SpinStrips x = Starts.laid(columns, rows, true);
                int cells = columns * rows;
                String of = "20: " + columns + " columns, " + rows + " rows, ups ";
                D.due(of + "-1", x.withUps(-1, false), 0);
                D.due(of + "0", x.withUps(0, false), 1);
                D.due(of + "1", x.withUps(1, false), cells);
                D.due(of + "all but one", x.withUps(cells - 1, false), cells);
                D.due(of + "all", x.withUps(cells, false), 1);
                D.due(of + "one more", x.withUps(cells + 1, false), 0);
            }
        }
        D.due("20: the greatest number of them", Starts.laid(10, 3, false).withUps(15, false), 155117520);
        D.due("20: beside it", Starts.laid(10, 3, false).withUps(14, false), 145422675);
        D.due("20: beside it", Starts.laid(10, 3, false).withUps(16, false), 145422675);
    }

    private static void upsOfTheLeastAroundTheEnds() {
        for (int columns : new int[] {1, 2, 3, 10}) {
            for (int rows = 1; rows <= 3; rows++) {
                SpinStrips x = Starts.laid(columns, rows, true);
                int cells = columns * rows;
                String of = "20: of the least, " + columns + " columns, " + rows + " rows, ups ";
                D.due(of + "-1", x.withUps(-1, true), 0);
                D.due(of + "0", x.withUps(0, true), 1);
                D.due(of + "1", x.withUps(1, true), cells == 1 ? 1 : 0);
                D.due(of + "all", x.withUps(cells, true), 1);
                D.due(of + "one more", x.withUps(cells + 1, true), 0);
                x.setField(rows - 1, columns - 1, 1);
                D.due(of + "0, with a field", x.withUps(0, true), 0);
                D.due(of + "all, with a field", x.withUps(cells, true), 1);
                x.setField(rows - 1, columns - 1, -1);
                D.due(of + "0, with a field below 0", x.withUps(0, true), 1);
                D.due(of + "all, with a field below 0", x.withUps(cells, true), 0);
            }
        }
    }

    private static void upsOfTheLeastInAll() {
        SpinStrips free = Starts.whole(0, 0);
        long all = 0;
        for (int ups = -1; ups <= 31; ups++) {
            D.due("20: where all have the least energy: " + ups, free.withUps(ups, true), free.withUps(ups, false));
            all += free.withUps(ups, true);
        }
        D.due("20: where all have the least energy, in all", all, ALL_OF_30);
        D.due("20: one alone has it", Starts.whole(2, 3).withUps(30, true), 1);
        D.due("20: one alone has it, not that", Starts.whole(2, 3).withUps(0, true), 0);
        D.due("20: one alone has it, all down", Starts.whole(2, -3).withUps(0, true), 1);
        SpinStrips x = Starts.busy();
        long least = 0;
        for (int ups = 0; ups <= 15; ups++) {
            least += x.withUps(ups, true);
        }
        D.due("20: in all as many as have the least energy", least, x.count(10));
    }

    private static void upsAskedFirst() {
        D.due("20: the first call of all", new SpinStrips().withUps(12, true), 1);
        D.due("20: the first call of all, none of the least", new SpinStrips().withUps(6, true), 0);
        D.due("20: the first call of all, of all strips", new SpinStrips().withUps(6, false), 924);
        SpinStrips x = new SpinStrips();
        x.settle();
        D.due("20: after settle()", x.withUps(12, true), 1);
        D.due("20: the least energy after that", x.count(8), -16);
    }

    private static void upsFarAway() {
        SpinStrips[] all = {Starts.fresh(), Starts.laid(1, 1, false), Starts.whole(0, 0)};
        for (SpinStrips x : all) {
            for (int ups : new int[] {MIN, MIN + 1, MAX, MAX - 1, -2, -1, 31, 32, 33, 60, 1000, -1005, 1 << 30, 1 << 16}) {
                D.due("20: any number: " + ups, x.withUps(ups, false), 0);
                D.due("20: any number, of the least: " + ups, x.withUps(ups, true), 0);
            }
        }
    }

    private static void upsOfTheLeastOverTheSeam() {
        SpinStrips x = Starts.laid(3, 1, true);
        x.setPull(false, -1);
        D.due("20: a ring of 3 that wants unlike ones", x.withUps(1, true), 3);
        D.due("20: a ring of 3 that wants unlike ones", x.withUps(2, true), 3);
        D.due("20: a ring of 3 that wants unlike ones", x.withUps(0, true), 0);
        x.close(false);
        D.due("20: a strip of 3 that wants unlike ones", x.withUps(1, true), 1);
        D.due("20: a strip of 3 that wants unlike ones", x.withUps(2, true), 1);
        x.lay(2, 1, true);
        D.due("20: a ring of 2 that wants unlike ones", x.withUps(1, true), 2);
        x.lay(9, 1, true);
        D.due("20: a ring of 9 that wants unlike ones", x.withUps(4, true), 9);
        D.due("20: a ring of 9 that wants unlike ones", x.withUps(5, true), 9);
    }

    private static int bits(float value) {
        return Float.floatToIntBits(value);
    }

    private static void hundredthsFrom50To100() {
        for (int hundredths = 50; hundredths <= 100; hundredths++) {
            float b = (float) hundredths / 100.0f;
            SpinStrips x = Starts.laid(1, 1, false);
            x.setField(0, 0, 1);
            float sum = 1.0f + 1.0f * b * b;
            D.due("21: hundredths: 50 to 100: " + hundredths, x.heat(hundredths, false), bits(sum));
            D.due("21: the mean by " + hundredths, x.heat(hundredths, true), bits((-1.0f + 1.0f * b * b * 1.0f) / sum));
        }
        SpinStrips x = Starts.laid(1, 1, false);
        x.setField(0, 0, -1);
        D.due("21: the least hundredths", x.heat(50, false), bits(1.25f));
        D.due("21: the least hundredths, mean", x.heat(50, true), bits(-0.75f / 1.25f));
        D.due("21: the greatest hundredths", x.heat(100, false), bits(2.0f));
        D.due("21: the greatest hundredths, mean", x.heat(100, true), bits(0.0f));
    }

    private static void hundredthsOutOfRange() {
        for (int hundredths : new int[] {49, 101, 0, -1, -50, -100, 150, 48, 102, MIN, MAX, 1 << 16, 50 + 65536, 50 + 256}) {
            for (boolean mean : new boolean[] {false, true}) {
                D.refused("21: 0 if hundredths is out of range: " + hundredths, Starts::fresh,
                        x -> x.heat(hundredths, mean), 0);
                D.refused("21: 0 if hundredths is out of range, of a busy one: " + hundredths, Starts::busy,
                        x -> x.heat(hundredths, mean), 0);
            }
        }
    }

    private static void weightOfTheLeastIs1() {
        for (int hundredths : new int[] {50, 73, 100}) {
            D.due("Terms: 1.0f if it is that energy: one cell", Starts.laid(1, 1, true).heat(hundredths, false), bits(2.0f));
            D.due("Terms: 1.0f if it is that energy: no pulls", Starts.whole(0, 0).heat(hundredths, false), bits((float) ALL_OF_30));
        }
        // Two strips have the least energy, -2, and two the greatest, 2: their weight is the base 4 times by itself.
        SpinStrips x = Starts.laid(2, 1, false);
        x.setPull(false, 2);
        D.due("Terms: 1.0f if it is that energy: two of them", x.heat(50, false), bits(2.0f + 2.0f / 16.0f));
    }

    private static void weightsByHalfAndByOne() {
        for (int field = 1; field <= 3; field++) {
            SpinStrips x = Starts.laid(1, 1, true);
            x.setField(0, 0, -field);
            float far = 1.0f / (1 << 2 * field);
            D.due("Terms: b multiplied so often as E is above the least: " + field, x.heat(50, false), bits(1.0f + far));
            D.due("Terms: the mean of it: " + field, x.heat(50, true), bits((-field + far * field) / (1.0f + far)));
            D.due("Terms: by one: " + field, x.heat(100, false), bits(2.0f));
        }
        D.due("Terms: the sum by one is how many there are", Starts.laid(10, 3, true).heat(100, false), bits((float) ALL_OF_30));
    }

    /** The sums in the document's words, from the numbers that withEnergy tells. */
    private static void dueSums(String of, SpinStrips told, SpinStrips x) {
        int[] many = new int[381];
        int least = told.count(8);
        int greatest = told.count(9);
        for (int energy = -190; energy <= 190; energy++) {
            many[energy + 190] = told.withEnergy(energy);
        }
        for (int hundredths = 50; hundredths <= 100; hundredths++) {
            float b = (float) hundredths / 100.0f;
            float weights = 0.0f;
            float energies = 0.0f;
            for (int energy = least; energy <= greatest; energy++) {
                float weight = 1.0f;
                for (int time = least; time < energy; time++) {
                    weight = weight * b;
                }
                float one = (float) many[energy + 190] * weight;
                weights = weights + one;
                energies = energies + one * (float) energy;
            }
            D.due("21: the sum, " + of + " by " + hundredths, x.heat(hundredths, false), bits(weights));
            D.due("21: the mean, " + of + " by " + hundredths, x.heat(hundredths, true), bits(energies / weights));
        }
    }

    private static void weightsInRisingOrder() {
        for (int pull = -2; pull <= 2; pull++) {
            for (int field = -3; field <= 3; field += 2) {
                dueSums("pulls " + pull + ", fields " + field, Starts.whole(pull, field), Starts.whole(pull, field));
            }
        }
        dueSums("a busy one", Starts.busy(), Starts.busy());
        dueSums("a new one", Starts.fresh(), Starts.fresh());
        dueSums("one cell", Starts.laid(1, 1, true), Starts.laid(1, 1, true));
    }

    private static void weightsOfAllStripsAtOneEnergy() {
        SpinStrips x = Starts.whole(0, 0);
        D.due("21: one energy alone, its sum", x.heat(50, false), bits(1073741824.0f));
        D.due("21: one energy alone, its mean", x.heat(50, true), bits(0.0f));
    }

    private static void meanOf0() {
        D.due("21: a mean of 0 has the bits 0", Starts.fresh().heat(100, true), 0);
        D.due("21: a mean below 0 has the sign's bit", Starts.fresh().heat(99, true) < 0 ? 1 : 0, 1);
        D.due("21: a sum has not", Starts.fresh().heat(99, false) > 0 ? 1 : 0, 1);
    }

    private static void whatOfTheCount() {
        int[] want = {6, 2, 0, -16, 0, 12, 1, 1, -16, 16, 2, 1, 0, 0, 16, 0, 0};
        for (int what = 0; what <= 16; what++) {
            D.due("22: what: 0 to 16: " + what, new SpinStrips().count(what), want[what]);
        }
    }

    private static void whatOfTheCountOutOfRange() {
        for (int what : new int[] {-1, 17, -2, 18, MIN, MAX, 1 << 8, 65536, 1 << 30}) {
            D.refused("22: BAD_VALUE: " + what, Starts::fresh, x -> x.count(what), -1002);
            D.refused("22: BAD_VALUE of a busy one: " + what, Starts::busy, x -> x.count(what), -1002);
        }
    }

    private static void dueCounts(String of, SpinStrips x, int... want) {
        for (int i = 0; i < want.length; i += 2) {
            D.due("22: " + of + ": count(" + want[i] + ")", x.count(want[i]), want[i + 1]);
        }
    }

    private static void theLeastAndTheGreatestCounts() {
        dueCounts("one cell", Starts.laid(1, 1, false), 0, 1, 1, 1, 2, 0, 3, 0, 4, 0, 5, 1, 8, 0, 9, 0, 10, 2, 11, 1, 12, 0, 14, 0);
        dueCounts("one cell down", Due.read("-", true), 2, 1, 3, 0, 4, 0, 5, 0, 11, 1, 12, 0);
        dueCounts("the greatest ring", Starts.laid(10, 3, true), 0, 10, 1, 3, 2, 1, 3, -50, 4, 0, 5, 30, 11, 1, 12, 0, 14, 50);
        dueCounts("the greatest strip", Starts.laid(10, 3, false), 0, 10, 1, 3, 2, 0, 3, -47, 4, 0, 5, 30, 11, 1, 12, 0, 14, 47);
        dueCounts("a board round", Due.read(BOARD, true), 3, 50, 4, 50, 5, 15, 11, 30, 12, 30, 14, 50);
        dueCounts("a board", Due.read(BOARD, false), 3, 47, 4, 47, 5, 15, 11, 30, 12, 30, 14, 47);
        SpinStrips down = Starts.laid(10, 3, true);
        down.turnPatch(0, 0);
        dueCounts("all down", down, 3, -50, 4, 0, 5, 0, 11, 1, 12, 0, 13, 30);
        dueCounts("patches over the seam", Due.read("+,-,-,+,-,-,-,-,-,+", true), 4, 4, 11, 4);
        dueCounts("patches, no seam", Due.read("+,-,-,+,-,-,-,-,-,+", false), 4, 4, 11, 5);
        for (int pull = -2; pull <= 2; pull++) {
            dueCounts("pulls", Starts.whole(pull, 0), 6, pull, 7, pull);
        }
    }

    private static void countsOfTheLeastAndTheGreatestEnergy() {
        dueCounts("the least energy of all", Starts.whole(2, 3), 3, -190, 8, -190, 10, 1);
        dueCounts("the least energy of all, down", Starts.whole(2, -3), 3, -10, 8, -190, 10, 1);
        dueCounts("the greatest energy of all", Starts.whole(-2, -3), 3, 190, 9, 190);
        dueCounts("the greatest energy of all, down", Starts.whole(-2, 3), 3, 10, 9, 190);
        dueCounts("no pulls, no fields", Starts.whole(0, 0), 8, 0, 9, 0, 10, ALL_OF_30);
        dueCounts("fields alone", Starts.whole(0, -3), 3, 90, 8, -90, 9, 90, 10, 1);
        dueCounts("pulls alone", Starts.whole(2, 0), 8, -100, 9, 100, 10, 2);
        dueCounts("pulls alone, below 0", Starts.whole(-2, 0), 8, -100, 9, 100, 10, 2);
        SpinStrips ring = Starts.laid(3, 1, true);
        dueCounts("a ring of 3", ring, 8, -3, 9, 1, 10, 2);
        ring.setPull(false, -1);
        dueCounts("a ring of 3, below 0", ring, 8, -1, 9, 3, 10, 6);
        ring.lay(2, 1, true);
        dueCounts("a ring of 2, below 0", ring, 8, -1, 9, 1, 10, 2);
    }

    private static void wouldBeTurned() {
        String sentence = "22: cells that a sweep would turn if it was asked of each now: ";
        SpinStrips x = Starts.laid(10, 1, false);
        x.setPull(false, -1);
        D.due(sentence + "each on its own, as it is now", x.count(12), 10);
        D.due(sentence + "a sweep turns fewer", x.sweep(1), 5);
        D.due(sentence + "then none", x.count(12), 0);
        SpinStrips level = Due.read("+,+,-,-", false);
        D.due(sentence + "gains of 0 are none", level.count(12), 0);
        for (int column = 0; column < 4; column++) {
            level.setField(0, column, column < 2 ? -1 : 1);
        }
        D.due(sentence + "gains of 2 are some", level.count(12), 2);
    }

    private static void turnedEachTime() {
        SpinStrips x = Starts.laid(10, 3, true);
        for (int time = 1; time <= 20; time++) {
            x.turnPatch(time % 3, time % 10);
            D.due("22: cells turned so far (each time): turnPatch()", x.count(13), 30 * time);
        }
        for (int time = 1; time <= 20; time++) {
            x.turn(2, 9);
            D.due("22: cells turned so far (each time): turn()", x.count(13), 600 + time);
        }
        x.turn(0, 0);
        x.turn(5, 5);
        x.turnPatch(5, 5);
        x.sweep(0);
        D.due("22: cells turned so far: refused calls turn none", x.count(13), 621);
        x.sweep(50);
        D.due("22: cells turned so far: sweep()", x.count(13), 622);
        x.lay(2, 2, false);
        x.settle();
        D.due("22: cells turned so far: lay and settle() turn none", x.count(13), 622);
    }

    private static void whatIsToldChangesNothing() {
        for (int number : new int[] {MIN, -1, 0, 1, 2, 5, 16, MAX}) {
            SpinStrips x = asked(number);
            x.count(number);
            x.cell(number, 0, 0);
            x.cell(0, 0, number);
            x.column(number);
            x.heat(number, true);
            x.heat(50, false);
            x.heat(100, true);
            D.dueText("16 to 22: what is told changes nothing: " + number, Look.through(x), Look.through(Starts.busy()));
        }
    }
}
