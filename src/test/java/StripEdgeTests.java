/** The boundary cases of "THE STRIP" and of promises 1, 2, 4, 5 and 6; each test names the sentence that it is for. */
public final class StripEdgeTests {
    private static final int MIN = Integer.MIN_VALUE;
    private static final int MAX = Integer.MAX_VALUE;
    private static final Due D = new Due();

    public static void main(String[] args) {
        columnsFrom1To10();
        rowsFrom1To3();
        columnsAndRowsBothWrong();
        sixAndTwoAtFirst();
        noRingAtFirst();
        cellsFrom0();
        allUpAtFirst();
        fieldsOf0AtFirst();
        pullsOf1AtFirst();
        lastColumnAndFirstOneOfARing();
        fewerThan3ColumnsAreAsAStrip();
        threeColumnsAreNotAsAStrip();
        theSeamKeepsTheRow();
        rowsDoNotGoRound();
        pullsFromMinus2To2();
        pullsOutOfRange();
        pullsThatAreSoAlready();
        fieldsFromMinus3To3();
        fieldsOutOfRange();
        fieldsThatAreSoAlready();
        fieldsOfCellsThatAreNot();
        leastAndGreatestEnergies();
        energyOfTheSeam();
        wallsWhateverThePullIs();
        wallsOfTheSeam();
        laidAnewAsItWas();
        laidAnewKeepsThePulls();
        fieldsDoNotComeBack();
        closeThatIsSoAlready();
        closeOfFewColumns();
        closeOfThreeColumns();
        closeKeepsSpinsAndFields();
        D.end();
    }

    private static void columnsFrom1To10() {
        String sentence = "2: columns: 1 to 10: ";
        for (int rows = 1; rows <= 3; rows++) {
            for (boolean ring : new boolean[] {false, true}) {
                int r = rows;
                D.due(sentence + "1", Starts.fresh().lay(1, rows, ring), rows);
                D.due(sentence + "10", Starts.fresh().lay(10, rows, ring), 10 * rows);
                D.recorded(sentence + "1 after more", Starts::busy, x -> x.lay(1, r, ring), rows);
                D.recorded(sentence + "10 after less", Starts::busy, x -> x.lay(10, r, ring), 10 * rows);
                for (int columns : new int[] {0, 11, -1, 12, MIN, MAX, 1 << 16, 1 << 30}) {
                    D.refused(sentence + columns, Starts::fresh, x -> x.lay(columns, r, ring), -1002);
                    D.refused(sentence + columns + " of a busy one", Starts::busy, x -> x.lay(columns, r, ring), -1002);
                }
            }
        }
    }

    private static void rowsFrom1To3() {
        String sentence = "2: rows: 1 to 3: ";
        for (int columns : new int[] {1, 2, 9, 10}) {
            for (boolean ring : new boolean[] {false, true}) {
                D.due(sentence + "1", Starts.fresh().lay(columns, 1, ring), columns);
                D.due(sentence + "3", Starts.fresh().lay(columns, 3, ring), 3 * columns);
                D.recorded(sentence + "1 after more", Starts::busy, x -> x.lay(columns, 1, ring), columns);
                D.recorded(sentence + "3 again", Starts::busy, x -> x.lay(columns, 3, ring), 3 * columns);
                for (int rows : new int[] {0, 4, -1, 5, MIN, MAX, 1 << 16, 1 << 30}) {
                    D.refused(sentence + rows, Starts::fresh, x -> x.lay(columns, rows, ring), -1002);
                    D.refused(sentence + rows + " of a busy one", Starts::busy, x -> x.lay(columns, rows, ring), -1002);
                }
            }
        }
    }

    private static void columnsAndRowsBothWrong() {
        int[][] wrong = {{0, 0}, {11, 4}, {0, 4}, {11, 0}, {-1, -1}, {-2, -3}, {MIN, MIN}, {MAX, MAX}, {1 << 16, 1 << 16}};
        for (int[] one : wrong) {
            D.refused("2: columns and rows both wrong", Starts::busy, x -> x.lay(one[0], one[1], false), -1002);
        }
    }

    private static void sixAndTwoAtFirst() {
        String sentence = "1: 6 columns and 2 rows at first: ";
        SpinStrips x = Starts.fresh();
        D.due(sentence + "columns", x.count(0), 6);
        D.due(sentence + "rows", x.count(1), 2);
        D.due(sentence + "the last cell", x.cell(1, 5, 0), 1);
        D.due(sentence + "one row more", x.cell(2, 5, 0), -1001);
        D.due(sentence + "one column more", x.cell(1, 6, 0), -1001);
        D.due(sentence + "the last column", x.column(5), 3);
        D.due(sentence + "one more", x.column(6), -1001);
        D.due(sentence + "no act", x.count(15), 0);
    }

    private static void noRingAtFirst() {
        String sentence = "Terms: it may be a ring (not at first): ";
        SpinStrips x = Starts.fresh();
        D.due(sentence + "whether it is", x.count(2), 0);
        D.due(sentence + "neighbours of the first cell", x.cell(0, 0, 4), 2);
        D.due(sentence + "neighbours of the last cell", x.cell(1, 5, 4), 2);
        D.due(sentence + "pairs", x.count(14), 16);
        D.due(sentence + "to open it", x.close(false), -1005);
        D.due(sentence + "to close it", x.close(true), -18);
    }

    private static void cellsFrom0() {
        String sentence = "Terms: cells are told by row and column, both from 0: ";
        for (int columns = 1; columns <= 10; columns++) {
            for (int rows = 1; rows <= 3; rows++) {
                // A greater strip was there before: its cells are no cells now.
                SpinStrips x = Starts.laid(10, 3, true);
                x.lay(columns, rows, columns % 2 == 0);
                String of = sentence + columns + " columns, " + rows + " rows, ";
                D.due(of + "the first", x.cell(0, 0, 0), 1);
                D.due(of + "the last", x.cell(rows - 1, columns - 1, 0), 1);
                D.due(of + "the last row of the first column", x.cell(rows - 1, 0, 0), 1);
                D.due(of + "the first row of the last column", x.cell(0, columns - 1, 0), 1);
                for (int row = -1; row <= 3; row++) {
                    D.due(of + "column -1", x.cell(row, -1, 0), -1001);
                    D.due(of + "a column too far", x.cell(row, columns, 0), -1001);
                }
                for (int column = -1; column <= 10; column++) {
                    D.due(of + "row -1", x.cell(-1, column, 0), -1001);
                    D.due(of + "a row too far", x.cell(rows, column, 0), -1001);
                }
            }
        }
    }

    private static void dueAllUp(String when, SpinStrips x) {
        int columns = x.count(0);
        int rows = x.count(1);
        D.due(when + "spins up", x.count(5), columns * rows);
        for (int column = 0; column < columns; column++) {
            D.due(when + "column " + column, x.column(column), (1 << rows) - 1);
            for (int row = 0; row < rows; row++) {
                D.due(when + "cell " + row + ", " + column, x.cell(row, column, 0), 1);
            }
        }
    }

    private static void allUpAtFirst() {
        dueAllUp("1: all are up at first: ", Starts.fresh());
        for (int columns : new int[] {1, 2, 10}) {
            for (int rows = 1; rows <= 3; rows++) {
                SpinStrips x = Starts.busy();
                x.lay(columns, rows, true);
                dueAllUp("Terms: when a strip is laid anew, all spins are up: ", x);
            }
        }
    }

    private static void dueNoFields(String when, SpinStrips x) {
        for (int column = 0; column < x.count(0); column++) {
            for (int row = 0; row < x.count(1); row++) {
                D.due(when + "cell " + row + ", " + column, x.cell(row, column, 1), 0);
            }
        }
    }

    private static void fieldsOf0AtFirst() {
        SpinStrips x = Starts.fresh();
        dueNoFields("1: each field is 0 at first: ", x);
        D.due("1: each field is 0 at first: it is so already", x.setField(1, 5, 0), -1005);
        x = Starts.whole(1, -3);
        x.lay(10, 3, true);
        dueNoFields("Terms: when a strip is laid anew, all fields are 0: ", x);
        D.due("Terms: when a strip is laid anew, all fields are 0: energy", x.count(3), -50);
    }

    private static void pullsOf1AtFirst() {
        String sentence = "Terms: a pull along and one across (1 at first): ";
        SpinStrips x = Starts.fresh();
        D.due(sentence + "along", x.count(6), 1);
        D.due(sentence + "across", x.count(7), 1);
        D.due(sentence + "along is so already", x.setPull(false, 1), -1005);
        D.due(sentence + "across is so already", x.setPull(true, 1), -1005);
        D.due(sentence + "energy", x.count(3), -16);
    }

    private static int neighbours(int columns, int rows, boolean ring, int row, int column) {
        boolean round = ring && columns >= 3;
        return (row > 0 ? 1 : 0) + (row < rows - 1 ? 1 : 0)
                + (column > 0 || round ? 1 : 0) + (column < columns - 1 || round ? 1 : 0);
    }

    private static void lastColumnAndFirstOneOfARing() {
        String sentence = "Terms: in a ring with at least 3 columns the last and the first follow one another: ";
        for (int columns = 1; columns <= 10; columns++) {
            for (int rows = 1; rows <= 3; rows++) {
                for (boolean ring : new boolean[] {false, true}) {
                    SpinStrips x = Starts.laid(columns, rows, ring);
                    int round = ring && columns >= 3 ? rows : 0;
                    int pairs = (columns - 1) * rows + columns * (rows - 1) + round;
                    String of = sentence + columns + " columns, " + rows + " rows, " + ring + ": ";
                    D.due(of + "pairs", x.count(14), pairs);
                    D.due(of + "energy", x.count(3), -pairs);
                    D.due(of + "least energy", x.count(8), -pairs);
                    for (int column = 0; column < columns; column++) {
                        for (int row = 0; row < rows; row++) {
                            int many = neighbours(columns, rows, ring, row, column);
                            D.due(of + "neighbours of " + row + ", " + column, x.cell(row, column, 4), many);
                            D.due(of + "like ones of " + row + ", " + column, x.cell(row, column, 5), many);
                            D.due(of + "gain of " + row + ", " + column, x.cell(row, column, 2), -2 * many);
                        }
                    }
                }
            }
        }
    }

    private static SpinStrips mixed(int columns, int rows, boolean ring) {
        SpinStrips x = Starts.laid(columns, rows, ring);
        x.setPull(false, -2);
        x.setField(0, 0, 1);
        x.setField(rows - 1, columns - 1, -2);
        x.turn(rows - 1, 0);
        return x;
    }

    private static String withoutRing(SpinStrips x) {
        return Look.state(x).replaceFirst("^(\\d+ \\d+) [01] ", "$1 ? ") + " " + Look.all(x, 25);
    }

    private static void fewerThan3ColumnsAreAsAStrip() {
        for (int columns = 1; columns <= 2; columns++) {
            for (int rows = 1; rows <= 3; rows++) {
                String sentence = "Terms: with fewer columns a ring is as a strip: " + columns + ", " + rows + ": ";
                SpinStrips ring = mixed(columns, rows, true);
                SpinStrips strip = mixed(columns, rows, false);
                D.dueText(sentence + "what is told", withoutRing(ring), withoutRing(strip));
                D.due(sentence + "swept", ring.sweep(50), strip.sweep(50));
                D.dueText(sentence + "swept", withoutRing(ring), withoutRing(strip));
                D.due(sentence + "patch", ring.turnPatch(0, columns - 1), strip.turnPatch(0, columns - 1));
                D.due(sentence + "settled", ring.settle(), strip.settle());
                D.dueText(sentence + "settled", withoutRing(ring), withoutRing(strip));
                D.due(sentence + "it is a ring", ring.count(2), 1);
            }
        }
    }

    private static void threeColumnsAreNotAsAStrip() {
        String sentence = "Terms: in a ring with at least 3 columns: ";
        for (int rows = 1; rows <= 3; rows++) {
            SpinStrips ring = mixed(3, rows, true);
            SpinStrips strip = mixed(3, rows, false);
            D.due(sentence + "pairs", ring.count(14) - strip.count(14), rows);
            D.due(sentence + "neighbours", ring.cell(0, 2, 4) - strip.cell(0, 2, 4), 1);
            D.due(sentence + "walls", ring.count(4) - strip.count(4), 1);
            D.due(sentence + "strips without a wall", ring.withWalls(0), 2);
            D.due(sentence + "strips with all walls", ring.withWalls(ring.count(14)), 0);
            D.due(sentence + "strips with all walls, open", strip.withWalls(strip.count(14)), 2);
        }
    }

    private static void theSeamKeepsTheRow() {
        String sentence = "Terms: neighbours along are cells of one row: ";
        for (int columns : new int[] {3, 4, 10}) {
            for (int row = 0; row < 3; row++) {
                SpinStrips x = Starts.laid(columns, 3, true);
                x.turn(row, 0);
                for (int other = 0; other < 3; other++) {
                    int like = neighbours(columns, 3, true, other, columns - 1) - (other == row ? 1 : 0);
                    D.due(sentence + "over the seam, rows " + row + ", " + other, x.cell(other, columns - 1, 5), like);
                }
                x = Starts.laid(columns, 3, true);
                x.turn(row, columns - 1);
                for (int other = 0; other < 3; other++) {
                    int like = neighbours(columns, 3, true, other, 0) - (other == row ? 1 : 0);
                    D.due(sentence + "back over the seam, rows " + row + ", " + other, x.cell(other, 0, 5), like);
                }
            }
        }
    }

    private static void rowsDoNotGoRound() {
        String sentence = "Terms: neighbours across are cells of one column in rows that follow one another: ";
        SpinStrips x = Starts.laid(1, 3, true);
        D.due(sentence + "pairs of 3 rows", x.count(14), 2);
        D.due(sentence + "row 0", x.cell(0, 0, 4), 1);
        D.due(sentence + "row 1", x.cell(1, 0, 4), 2);
        D.due(sentence + "row 2", x.cell(2, 0, 4), 1);
        x.turn(1, 0);
        D.due(sentence + "row 0 is alone then", x.cell(0, 0, 6), 1);
        D.due(sentence + "patches then", x.count(11), 3);
        D.due(sentence + "one row has no pairs", Starts.laid(1, 1, true).count(14), 0);
        D.due(sentence + "two rows have one", Starts.laid(1, 2, true).count(14), 1);
        // Row 2 of a column and row 0 of the next one lie side by side where cells are counted through.
        SpinStrips beside = Due.read("--+,+--", false);
        D.due(sentence + "from a column's last row to the next one's first", beside.cell(2, 0, 6), 1);
        D.due(sentence + "and back", beside.cell(0, 1, 6), 1);
        D.due(sentence + "like neighbours", beside.cell(2, 0, 5), 0);
    }

    private static void pullsFromMinus2To2() {
        for (boolean across : new boolean[] {false, true}) {
            for (int from = -2; from <= 2; from++) {
                for (int to = -2; to <= 2; to++) {
                    SpinStrips x = Starts.fresh();
                    x.setPull(across, from);
                    String call = "5: pull: -2 to 2: from " + from + " to " + to + ", across " + across;
                    D.due(call, x.setPull(across, to), to == from ? -1005 : from);
                    D.due(call + ": it is so then", x.count(across ? 7 : 6), to);
                    D.due(call + ": the other one stays", x.count(across ? 6 : 7), 1);
                    D.due(call + ": energy", x.count(3), across ? -10 - 6 * to : -10 * to - 6);
                }
            }
        }
    }

    private static void pullsOutOfRange() {
        for (boolean across : new boolean[] {false, true}) {
            for (int pull : new int[] {-3, 3, -4, 4, MIN, MAX, 1 << 8, 65537}) {
                String call = "5: pull: -2 to 2: setPull(" + across + ", " + pull + ")";
                D.refused(call, Starts::fresh, x -> x.setPull(across, pull), -1002);
                D.refused(call + " of a busy one", Starts::busy, x -> x.setPull(across, pull), -1002);
            }
        }
    }

    private static SpinStrips withPull(boolean across, int pull) {
        SpinStrips x = Starts.busy();
        x.setPull(across, pull);
        return x;
    }

    private static void pullsThatAreSoAlready() {
        for (boolean across : new boolean[] {false, true}) {
            for (int pull = -2; pull <= 2; pull++) {
                int p = pull;
                D.refused("5: NONE if it is so already: setPull(" + across + ", " + pull + ")",
                        () -> withPull(across, p), x -> x.setPull(across, p), -1005);
                int other = pull == 2 ? -2 : pull + 1;
                D.recorded("5: this is an act: setPull(" + across + ", " + other + ")",
                        () -> withPull(across, p), x -> x.setPull(across, other), pull);
            }
        }
    }

    private static void fieldsFromMinus3To3() {
        for (int from = -3; from <= 3; from++) {
            for (int to = -3; to <= 3; to++) {
                SpinStrips x = Starts.laid(10, 3, true);
                x.setField(2, 9, from);
                String call = "6: field: -3 to 3: from " + from + " to " + to;
                D.due(call, x.setField(2, 9, to), to == from ? -1005 : from);
                D.due(call + ": it is so then", x.cell(2, 9, 1), to);
                D.due(call + ": energy", x.count(3), -50 - to);
                D.due(call + ": least energy", x.count(8), -50 - Math.abs(to));
                x.turn(2, 9);
                D.due(call + ": energy of the spin down", x.count(3), -44 + to);
            }
        }
    }

    private static void fieldsOutOfRange() {
        int[][] corners = {{0, 0}, {2, 0}, {0, 4}, {2, 4}};
        for (int field : new int[] {-4, 4, -5, 5, MIN, MAX, 1 << 8, 65537}) {
            D.refused("6: field: -3 to 3: " + field, Starts::fresh, x -> x.setField(1, 5, field), -1002);
            for (int[] at : corners) {
                D.refused("6: field: -3 to 3: " + field + " of a busy one", Starts::busy,
                        x -> x.setField(at[0], at[1], field), -1002);
            }
        }
    }

    private static SpinStrips withField(int field) {
        SpinStrips x = Starts.busy();
        x.setField(2, 4, field);
        return x;
    }

    private static void fieldsThatAreSoAlready() {
        for (int field = -3; field <= 3; field++) {
            int f = field;
            D.refused("6: NONE if it is so already: " + field, () -> withField(f), x -> x.setField(2, 4, f), -1005);
            int other = field == 3 ? -3 : field + 1;
            D.recorded("6: this is an act: " + other, () -> withField(f), x -> x.setField(2, 4, other), field);
        }
    }

    private static void fieldsOfCellsThatAreNot() {
        int[][] cells = {{-1, 0}, {3, 0}, {0, -1}, {0, 5}, {3, 5}, {-1, -1}, {MIN, 0}, {MAX, 0}, {0, MIN}, {0, MAX}};
        for (int[] at : cells) {
            String of = "(" + at[0] + ", " + at[1] + ")";
            for (int field : new int[] {0, 1, -3, 3}) {
                D.refused("6: UNKNOWN: setField" + of, Starts::busy, x -> x.setField(at[0], at[1], field), -1001);
            }
            for (int field : new int[] {-4, 4, MIN, MAX}) {
                D.refused("6: UNKNOWN before BAD_VALUE: setField" + of, Starts::busy,
                        x -> x.setField(at[0], at[1], field), -1001);
            }
        }
    }

    private static void leastAndGreatestEnergies() {
        String sentence = "Terms: the energy of a strip is the sum, with the other sign: ";
        D.due(sentence + "all pulls 2, all fields 3", Starts.whole(2, 3).count(3), -190);
        D.due(sentence + "all pulls -2, all fields -3", Starts.whole(-2, -3).count(3), 190);
        D.due(sentence + "pulls 2, fields -3", Starts.whole(2, -3).count(3), -10);
        D.due(sentence + "pulls -2, fields 3", Starts.whole(-2, 3).count(3), 10);
        D.due(sentence + "no pulls, no fields", Starts.whole(0, 0).count(3), 0);
        D.due(sentence + "one cell", Starts.laid(1, 1, true).count(3), 0);
        SpinStrips one = Starts.laid(1, 1, false);
        one.setField(0, 0, 3);
        D.due(sentence + "one cell with a field", one.count(3), -3);
        D.due(sentence + "that cell turned", one.turn(0, 0), 3);
        SpinStrips all = Starts.whole(2, 3);
        D.due(sentence + "all turned", all.turnPatch(0, 0), 30);
        D.due(sentence + "all down against their fields", all.count(3), -10);
    }

    private static void energyOfTheSeam() {
        String sentence = "Terms: the energy over all pairs of neighbours, those over the seam too: ";
        for (int pull = -2; pull <= 2; pull++) {
            SpinStrips x = Due.read("+-+,++-,-+-,---", true);
            x.setPull(true, 0);
            x.setPull(false, pull);
            // Rows: + + - - and - + + - and + - - -; over the seam: unlike, like, unlike.
            D.due(sentence + "a ring, pull " + pull, x.count(3), 0);
            x.close(false);
            D.due(sentence + "a strip, pull " + pull, x.count(3), -pull);
        }
    }

    private static void wallsWhateverThePullIs() {
        for (int along = -2; along <= 2; along++) {
            for (int across = -2; across <= 2; across++) {
                SpinStrips x = Due.read("+-,++,--", true);
                x.setPull(false, along);
                x.setPull(true, across);
                x.setField(0, 0, 3);
                D.due("Terms: a wall (whatever the pull is): " + along + ", " + across, x.count(4), 4 + 1);
            }
        }
    }

    private static void wallsOfTheSeam() {
        String sentence = "Terms: a wall is a pair of neighbours with unlike spins: ";
        D.due(sentence + "over the seam", Due.read("+,+,-", true).count(4), 2);
        D.due(sentence + "no seam", Due.read("+,+,-", false).count(4), 1);
        D.due(sentence + "two columns of a ring", Due.read("+,-", true).count(4), 1);
        D.due(sentence + "one cell", Due.read("-", true).count(4), 0);
        D.due(sentence + "all pairs", Due.read("+-+,-+-,+-+,-+-,+-+,-+-,+-+,-+-,+-+,-+-", true).count(4), 50);
        D.due(sentence + "none", Due.read("---,---,---,---,---,---,---,---,---,---", true).count(4), 0);
    }

    private static void laidAnewAsItWas() {
        String sentence = "Terms: (also if the columns and rows are as they were): ";
        SpinStrips x = Starts.busy();
        D.due(sentence + "lay", x.lay(5, 3, true), 15);
        dueAllUp(sentence, x);
        dueNoFields(sentence, x);
        D.recorded(sentence + "an act", Starts::busy, y -> y.lay(5, 3, true), 15);
        D.recorded(sentence + "an act even if nothing is changed", Starts::fresh, y -> y.lay(6, 2, false), 12);
    }

    private static void laidAnewKeepsThePulls() {
        SpinStrips x = Starts.busy();
        x.lay(2, 2, false);
        D.due("2: lays a strip anew, the pull along stays", x.count(6), -1);
        D.due("2: lays a strip anew, the pull across stays", x.count(7), 2);
        D.due("2: lays a strip anew, the energy by them", x.count(3), 2 - 4);
        D.due("2: ring: whether it is a ring", x.count(2), 0);
        x.lay(3, 1, true);
        D.due("2: ring: whether it is a ring", x.count(2), 1);
    }

    private static void fieldsDoNotComeBack() {
        SpinStrips x = Starts.whole(1, 3);
        x.lay(1, 1, false);
        x.lay(10, 3, true);
        dueNoFields("2: from the greatest to the least and back: ", x);
        x = Starts.whole(1, 3);
        Due.typeAll(x, "-");
        x.read();
        x.lay(10, 3, true);
        dueNoFields("2: after a text of one cell: ", x);
    }

    private static SpinStrips closed(boolean ring) {
        SpinStrips x = Starts.busy();
        x.close(ring);
        return x;
    }

    private static void closeThatIsSoAlready() {
        for (boolean ring : new boolean[] {false, true}) {
            D.refused("4: NONE if it is so already: " + ring, () -> closed(ring), x -> x.close(ring), -1005);
        }
        D.refused("4: NONE if it is so already: a new object", Starts::fresh, x -> x.close(false), -1005);
        D.recorded("4: this is an act: a new object", Starts::fresh, x -> x.close(true), -18);
        SpinStrips open = closed(false);
        int energy = open.count(3);
        D.recorded("4: this is an act: to open", () -> closed(true), x -> x.close(false), energy);
    }

    private static void closeOfFewColumns() {
        for (int columns = 1; columns <= 2; columns++) {
            for (int rows = 1; rows <= 3; rows++) {
                int c = columns;
                int r = rows;
                int energy = -(columns - 1) * rows - columns * (rows - 1);
                String of = columns + " columns, " + rows + " rows";
                D.recorded("4: to close " + of, () -> Starts.laid(c, r, false), x -> x.close(true), energy);
                D.recorded("4: to open " + of, () -> Starts.laid(c, r, true), x -> x.close(false), energy);
                D.refused("4: closed already, " + of, () -> Starts.laid(c, r, true), x -> x.close(true), -1005);
                D.refused("4: open already, " + of, () -> Starts.laid(c, r, false), x -> x.close(false), -1005);
            }
        }
    }

    private static void closeOfThreeColumns() {
        for (int rows = 1; rows <= 3; rows++) {
            int r = rows;
            int open = -2 * rows - 3 * (rows - 1);
            D.recorded("4: to close 3 columns", () -> Starts.laid(3, r, false), x -> x.close(true), open - rows);
            D.recorded("4: to open 3 columns", () -> Starts.laid(3, r, true), x -> x.close(false), open);
        }
        D.recorded("4: to close 10 columns", () -> Starts.laid(10, 3, false), x -> x.close(true), -50);
        D.recorded("4: to open 10 columns", () -> Starts.laid(10, 3, true), x -> x.close(false), -47);
    }

    private static void closeKeepsSpinsAndFields() {
        String sentence = "4: spins and fields stay: ";
        SpinStrips x = Starts.busy();
        String spins = Due.spins(x);
        x.close(false);
        D.dueSpins(sentence + "opened", x, spins);
        D.due(sentence + "opened, a field", x.cell(1, 2, 1), -3);
        D.due(sentence + "opened, another one", x.cell(0, 0, 1), 2);
        x.close(true);
        D.dueSpins(sentence + "closed", x, spins);
        D.due(sentence + "closed, a field", x.cell(1, 2, 1), -3);
        D.due(sentence + "closed, another one", x.cell(0, 0, 1), 2);
    }
}
