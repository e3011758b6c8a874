/** Promises 1 to 6: a new object, lay, read, close, setPull, setField. */
public final class StripTests {
    private static final Due D = new Due();

    public static void main(String[] args) {
        promise1NewObject();
        promise2Lay();
        promise2LayMakesAnew();
        promise3Read();
        promise3Faults();
        promise4Close();
        promise5SetPull();
        promise6SetField();
        D.end();
    }

    private static void promise1NewObject() {
        SpinStrips x = new SpinStrips();
        int[] want = {6, 2, 0, -16, 0, 12, 1, 1, -16, 16, 2, 1, 0, 0, 16, 0, 0};
        for (int what = 0; what < want.length; what++) {
            D.due("1: count(" + what + ") of a new object", x.count(what), want[what]);
        }
        for (int column = 0; column < 6; column++) {
            D.due("1: column " + column, x.column(column), 3);
            D.due("1: field of 0, " + column, x.cell(0, column, 1), 0);
            D.due("1: field of 1, " + column, x.cell(1, column, 1), 0);
        }
        D.due("1: undo() of a new object", x.undo(), -1005);
        D.due("1: restore() of a new object", x.restore(), -1005);
        D.due("1: read() of a new object", x.read(), -1100);
        D.due("1: UNKNOWN", SpinStrips.UNKNOWN, -1001);
        D.due("1: BAD_VALUE", SpinStrips.BAD_VALUE, -1002);
        D.due("1: FULL", SpinStrips.FULL, -1003);
        D.due("1: NOT_POSSIBLE", SpinStrips.NOT_POSSIBLE, -1004);
        D.due("1: NONE", SpinStrips.NONE, -1005);
    }

    private static void promise2Lay() {
        SpinStrips x = new SpinStrips();
        int[][] wrong = {{0, 1}, {11, 1}, {1, 0}, {1, 4}, {-1, 2}, {2, -1}, {Integer.MIN_VALUE, 2},
            {2, Integer.MAX_VALUE}, {Integer.MAX_VALUE, Integer.MIN_VALUE}};
        for (int[] size : wrong) {
            D.due("2: lay(" + size[0] + ", " + size[1] + ", true)", x.lay(size[0], size[1], true), -1002);
        }
        D.due("2: history after errors", x.count(15), 0);
        D.due("2: ring after errors", x.count(2), 0);
        for (int columns = 1; columns <= 10; columns++) {
            for (int rows = 1; rows <= 3; rows++) {
                boolean ring = (columns + rows) % 2 == 0;
                D.due("2: lay(" + columns + ", " + rows + ", " + ring + ")", x.lay(columns, rows, ring), columns * rows);
                D.due("2: columns then", x.count(0), columns);
                D.due("2: rows then", x.count(1), rows);
                D.due("2: ring then", x.count(2), ring ? 1 : 0);
                D.due("2: ups then", x.count(5), columns * rows);
                int along = ring && columns > 2 ? columns * rows : (columns - 1) * rows;
                D.due("2: pairs then", x.count(14), along + columns * (rows - 1));
            }
        }
    }

    private static void promise2LayMakesAnew() {
        SpinStrips x = new SpinStrips();
        x.setPull(false, 2);
        x.setPull(true, -1);
        x.setField(1, 3, -2);
        x.turn(0, 0);
        Due.typeAll(x, "+-");
        D.due("2: lay as it was", x.lay(6, 2, false), 12);
        D.dueSpins("2: lay as it was", x, "++,++,++,++,++,++");
        D.due("2: field is 0 again", x.cell(1, 3, 1), 0);
        D.due("2: pull along stays", x.count(6), 2);
        D.due("2: pull across stays", x.count(7), -1);
        D.due("2: turned so far stays", x.count(13), 1);
        D.due("2: text stays", x.count(16), 2);
        D.due("2: an act even if nothing is changed", x.lay(6, 2, false), 12);
        D.due("2: undo one of both", x.undo(), 3);
        D.due("2: undo the other", x.undo(), 2);
        D.due("2: field is back", x.cell(1, 3, 1), -2);
        D.dueSpins("2: spins are back", x, "-+,++,++,++,++,++");
    }

    private static int readOf(SpinStrips x, String text) {
        x.clearText();
        Due.typeAll(x, text);
        return x.read();
    }

    private static void promise3Read() {
        SpinStrips x = new SpinStrips();
        x.setField(0, 0, 3);
        x.setPull(true, 2);
        D.due("3: read ++-,--+", readOf(x, "++-,--+"), 6);
        D.dueSpins("3: read ++-,--+", x, "++-,--+");
        D.due("3: column 0", x.column(0), 3);
        D.due("3: column 1", x.column(1), 4);
        D.due("3: fields are 0", x.cell(0, 0, 1), 0);
        D.due("3: pull stays", x.count(7), 2);
        D.due("3: no ring", x.count(2), 0);
        D.due("3: text stays", x.count(16), 7);
        D.due("3: an act", x.count(15), 3);
        D.due("3: once more", x.read(), 6);
        D.due("3: an act again", x.count(15), 4);
        x.close(true);
        D.due("3: read a ring", readOf(x, "+,-,-"), 3);
        D.due("3: it is a ring still", x.count(2), 1);
        D.due("3: with its seam", x.count(14), 3);
        D.due("3: one column", readOf(x, "-"), 1);
        D.dueSpins("3: one column", x, "-");
        D.due("3: ten columns", readOf(x, "+++,---,+-+,-+-,++-,+--,--+,-++,+++,--+"), 30);
        D.dueSpins("3: ten columns", x, "+++,---,+-+,-+-,++-,+--,--+,-++,+++,--+");
        D.due("3: ten columns, two rows", readOf(x, "--,++,--,++,--,++,--,++,--,+-"), 20);
        D.due("3: all strips are of the new size", x.withUps(10, false), 184756);
        D.due("3: least energy", x.count(8), -40);
        D.due("3: least energy of another", readOf(x, "+,-"), 2);
        D.due("3: least energy of another", x.count(8), -1);
        D.due("3: walls of all", x.withWalls(1), 2);
        D.due("3: ups of the least", x.withUps(2, true), 1);
        D.due("3: read again", readOf(x, "+"), 1);
        D.due("3: walls of all then", x.withWalls(1), 0);
        D.due("3: ups of the least then", x.withUps(2, true), 0);
        D.due("3: least energy then", x.count(8), 0);
    }

    private static void promise3Faults() {
        SpinStrips x = new SpinStrips();
        x.turn(1, 5);
        Object[][] faults = {
            {"", 0}, {",", 0}, {"x", 0}, {" ", 0}, {"0", 0}, {"\u012b", 0}, {"++++", 3}, {"+,", 2}, {"+,,", 2},
            {"+,+-", 3}, {"++,+", 4}, {"++,+,", 4}, {"++,+-+", 5}, {"+++,--", 6}, {"+-,", 3}, {"+-,+x", 4},
            {"+.", 1}, {"+++,+++,+++,++,", 14}, {"+,+,+,+,+,+,+,+,+,+,", 19}, {"+,+,+,+,+,+,+,+,+,+,+", 19},
            {"++,++,++,++,++,++,++,++,++,++,", 29}, {"+,+,+,+,+,+,+,+,+,++", 19}, {"+,+,+,+,+,+,+,+,+,", 18},
            {"+++,+++,+++,+++,+++,+++,+++,+++,+++,++", 38}, {"+++,+++,+++,+++,+++,+++,+++,+++,+++,++++", 39},
            {"+++,+++,+++,+++,+++,+++,+++,+++,+++,++,", 38},
            {"------------------------------------------------------------", 3}
        };
        for (Object[] fault : faults) {
            String text = (String) fault[0];
            D.due("3: read of '" + text + "'", readOf(x, text), -1100 - (Integer) fault[1]);
        }
        D.dueSpins("3: faults change nothing", x, "++,++,++,++,++,+-");
        D.due("3: faults are no acts", x.count(15), 1);
    }

    private static void promise4Close() {
        SpinStrips x = new SpinStrips();
        D.due("4: close(false) of a strip", x.close(false), -1005);
        D.due("4: that was no act", x.count(15), 0);
        x.turn(0, 0);
        x.setField(1, 5, 2);
        D.due("4: close(true)", x.close(true), -12 - 2);
        D.due("4: ring", x.count(2), 1);
        D.dueSpins("4: spins stay", x, "-+,++,++,++,++,++");
        D.due("4: field stays", x.cell(1, 5, 1), 2);
        D.due("4: close(true) again", x.close(true), -1005);
        D.due("4: neighbours of a corner", x.cell(0, 0, 4), 3);
        D.due("4: least energy", x.count(8), -20);
        D.due("4: close(false)", x.close(false), -12 - 2);
        D.due("4: acts", x.count(15), 4);
        D.due("4: least energy opened", x.count(8), -18);
        x.lay(2, 2, true);
        D.due("4: a ring of 2 columns is as a strip", x.count(14), 4);
        D.due("4: but it is a ring", x.close(true), -1005);
        D.due("4: open that", x.close(false), -4);
        x.lay(1, 3, false);
        D.due("4: a ring of 1 column", x.close(true), -2);
        D.due("4: pairs of that", x.count(14), 2);
        x.lay(3, 1, false);
        D.due("4: a ring of 3 columns", x.close(true), -3);
        D.due("4: pairs of that", x.count(14), 3);
    }

    private static void promise5SetPull() {
        SpinStrips x = new SpinStrips();
        int[] wrong = {-3, 3, Integer.MIN_VALUE, Integer.MAX_VALUE};
        for (int pull : wrong) {
            D.due("5: setPull(true, " + pull + ")", x.setPull(true, pull), -1002);
            D.due("5: setPull(false, " + pull + ")", x.setPull(false, pull), -1002);
        }
        D.due("5: across is so already", x.setPull(true, 1), -1005);
        D.due("5: along is so already", x.setPull(false, 1), -1005);
        D.due("5: no acts so far", x.count(15), 0);
        D.due("5: across 2", x.setPull(true, 2), 1);
        D.due("5: along stays", x.count(6), 1);
        D.due("5: energy", x.count(3), -10 - 12);
        D.due("5: along -2", x.setPull(false, -2), 1);
        D.due("5: energy", x.count(3), 20 - 12);
        D.due("5: across stays", x.count(7), 2);
        D.due("5: across -2", x.setPull(true, -2), 2);
        D.due("5: along 0", x.setPull(false, 0), -2);
        D.due("5: along 2", x.setPull(false, 2), 0);
        D.due("5: least energy", x.count(8), -32);
        D.due("5: undo", x.undo(), 3);
        D.due("5: along as before", x.count(6), 0);
        D.due("5: least energy as before", x.count(8), -12);
    }

    private static void promise6SetField() {
        SpinStrips x = new SpinStrips();
        int[][] cells = {{2, 0}, {-1, 0}, {0, 6}, {0, -1}, {3, 3}, {Integer.MAX_VALUE, 0}, {0, Integer.MIN_VALUE}};
        for (int[] cell : cells) {
            D.due("6: no cell " + cell[0] + ", " + cell[1], x.setField(cell[0], cell[1], 1), -1001);
            D.due("6: the cell is looked at first", x.setField(cell[0], cell[1], 9), -1001);
        }
        int[] wrong = {-4, 4, Integer.MIN_VALUE, Integer.MAX_VALUE};
        for (int field : wrong) {
            D.due("6: field " + field, x.setField(1, 5, field), -1002);
        }
        D.due("6: so already", x.setField(1, 5, 0), -1005);
        D.due("6: no acts so far", x.count(15), 0);
        D.due("6: field 3", x.setField(1, 5, 3), 0);
        D.due("6: field 3 again", x.setField(1, 5, 3), -1005);
        D.due("6: energy", x.count(3), -19);
        D.due("6: field -3", x.setField(1, 5, -3), 3);
        D.due("6: energy", x.count(3), -13);
        D.due("6: told", x.cell(1, 5, 1), -3);
        D.due("6: another cell", x.cell(0, 5, 1), 0);
        D.due("6: least energy", x.count(8), -19);
        D.due("6: how many have it", x.count(10), 1);
        D.due("6: undo", x.undo(), 1);
        D.due("6: as before", x.cell(1, 5, 1), 3);
        x.lay(10, 3, false);
        int energy = -27 - 20;
        for (int column = 0; column < 10; column++) {
            for (int row = 0; row < 3; row++) {
                int field = (column * 3 + row) % 7 - 3;
                D.due("6: of each cell", x.setField(row, column, field), field == 0 ? -1005 : 0);
                energy -= field;
            }
        }
        D.due("6: energy of all", x.count(3), energy);
        for (int column = 0; column < 10; column++) {
            for (int row = 0; row < 3; row++) {
                D.due("6: each told", x.cell(row, column, 1), (column * 3 + row) % 7 - 3);
            }
        }
    }
}
