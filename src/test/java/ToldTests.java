/** Promises 16 to 22: cell, column, withEnergy, withWalls, withUps, heat, count. */
public final class ToldTests {
    private static final Due D = new Due();
    private static final int[] FAR = {Integer.MIN_VALUE, Integer.MAX_VALUE, -1, -1001, 201, 1000000};

    public static void main(String[] args) {
        promise16Cell();
        promise16Neighbours();
        promise17Column();
        promise18WithEnergy();
        promise19WithWalls();
        promise20WithUps();
        promise21Heat();
        promise22Count();
        D.end();
    }

    private static void dueCell(SpinStrips x, int row, int column, int... want) {
        for (int what = 0; what < want.length; what++) {
            D.due("16: cell(" + row + ", " + column + ", " + what + ")", x.cell(row, column, what), want[what]);
        }
    }

    private static void promise16Cell() {
        SpinStrips x = Due.read("++-,+--,-++", false);
        x.setPull(true, -2);
        x.setField(1, 1, -3);
        x.setField(0, 2, 2);
        // spin, field, gain, reason, neighbours, like ones, size of the patch
        dueCell(x, 0, 0, 1, 0, 2, 0, 2, 2, 3);
        dueCell(x, 1, 0, 1, 0, 2, 0, 3, 1, 3);
        dueCell(x, 2, 0, -1, 0, -6, 2, 2, 1, 3);
        dueCell(x, 1, 1, -1, -3, -2, 2, 4, 1, 3);
        dueCell(x, 0, 2, -1, 2, 2, 0, 2, 0, 1);
        dueCell(x, 2, 2, 1, 0, 6, 0, 2, 1, 2);
        x.setField(1, 0, 1);
        D.due("16: a gain of 0", x.cell(1, 0, 2), 0);
        D.due("16: its reason", x.cell(1, 0, 3), 1);
        int[][] cells = {{3, 0}, {-1, 0}, {0, 3}, {0, -1}, {Integer.MIN_VALUE, 0}, {0, Integer.MAX_VALUE}};
        for (int[] cell : cells) {
            for (int what = -1; what <= 7; what++) {
                D.due("16: there is no cell", x.cell(cell[0], cell[1], what), -1001);
            }
        }
        int[] wrong = {-1, 7, 8, Integer.MIN_VALUE, Integer.MAX_VALUE};
        for (int what : wrong) {
            D.due("16: cell(0, 0, " + what + ")", x.cell(0, 0, what), -1002);
        }
        D.due("16: telling is no act", x.count(15), 4);
    }

    private static void promise16Neighbours() {
        int[][] sizes = {{1, 1}, {2, 1}, {3, 1}, {1, 3}, {2, 3}, {3, 3}, {10, 2}, {10, 3}};
        SpinStrips x = new SpinStrips();
        for (int[] size : sizes) {
            for (int ring = 0; ring < 2; ring++) {
                x.lay(size[0], size[1], ring == 1);
                for (int row = 0; row < size[1]; row++) {
                    int across = size[1] == 1 ? 0 : row == 0 || row == size[1] - 1 ? 1 : 2;
                    int last = size[0] - 1;
                    int atEnd = size[0] == 1 ? 0 : size[0] == 2 ? 1 : 1 + ring;
                    D.due("16: neighbours at the front", x.cell(row, 0, 4), across + atEnd);
                    D.due("16: neighbours at the end", x.cell(row, last, 4), across + atEnd);
                    D.due("16: all of them are alike", x.cell(row, last, 5), across + atEnd);
                    D.due("16: the gain of it", x.cell(row, last, 2), -2 * (across + atEnd));
                    D.due("16: the patch of it", x.cell(row, last, 6), size[0] * size[1]);
                }
            }
        }
        x.lay(10, 3, true);
        D.due("16: in the middle", x.cell(1, 5, 4), 4);
    }

    private static void promise17Column() {
        SpinStrips x = Due.read("---,+--,-+-,++-,--+,+-+,-++,+++", true);
        for (int column = 0; column < 8; column++) {
            D.due("17: column(" + column + ")", x.column(column), column);
        }
        SpinStrips flat = Due.read("-,+", false);
        D.due("17: one row", flat.column(0), 0);
        D.due("17: one row", flat.column(1), 1);
        D.due("17: one row", flat.column(2), -1001);
        int[] wrong = {-1, 8, 10, Integer.MIN_VALUE, Integer.MAX_VALUE};
        for (int column : wrong) {
            D.due("17: column(" + column + ")", x.column(column), -1001);
        }
    }

    private static void promise18WithEnergy() {
        SpinStrips x = new SpinStrips();
        x.lay(2, 2, true);
        int[][] want = {{-4, 2}, {0, 12}, {4, 2}, {-2, 0}, {2, 0}, {1, 0}, {-5, 0}, {5, 0}, {6, 0}, {-6, 0}};
        for (int[] one : want) {
            D.due("18: withEnergy(" + one[0] + ")", x.withEnergy(one[0]), one[1]);
        }
        for (int energy : FAR) {
            D.due("18: withEnergy(" + energy + ")", x.withEnergy(energy), 0);
        }
        x.turn(0, 0);
        D.due("18: whatever the spins are", x.withEnergy(-4), 2);
        x.setPull(false, 0);
        D.due("18: a pull of 0", x.withEnergy(-2), 4);
        D.due("18: a pull of 0", x.withEnergy(0), 8);
        x.setPull(true, 0);
        D.due("18: no pulls", x.withEnergy(0), 16);
        x.setField(0, 1, -3);
        D.due("18: one field", x.withEnergy(-3), 8);
        D.due("18: one field", x.withEnergy(3), 8);
        D.due("18: one field", x.withEnergy(0), 0);
        x.lay(5, 1, true);
        x.setPull(false, -2);
        D.due("18: a ring", x.withEnergy(-6), 10);
        D.due("18: a ring", x.withEnergy(10), 2);
        D.due("18: a ring", x.withEnergy(-10), 0);
        x.close(false);
        D.due("18: opened", x.withEnergy(-8), 2);
        D.due("18: opened", x.withEnergy(-6), 0);
    }

    private static void promise19WithWalls() {
        SpinStrips x = new SpinStrips();
        x.lay(4, 1, false);
        int[] open = {2, 6, 6, 2, 0};
        int[] ring = {2, 0, 12, 0, 2};
        for (int walls = 0; walls < 5; walls++) {
            D.due("19: withWalls(" + walls + ")", x.withWalls(walls), open[walls]);
        }
        x.close(true);
        for (int walls = 0; walls < 5; walls++) {
            D.due("19: withWalls(" + walls + ") of a ring", x.withWalls(walls), ring[walls]);
        }
        for (int walls : FAR) {
            D.due("19: withWalls(" + walls + ")", x.withWalls(walls), 0);
        }
        x.setPull(false, 0);
        x.setField(0, 0, 3);
        x.turn(0, 1);
        for (int walls = 0; walls < 5; walls++) {
            D.due("19: whatever pulls and fields are", x.withWalls(walls), ring[walls]);
        }
        x.lay(1, 3, true);
        D.due("19: three in a column", x.withWalls(1), 4);
        x.undo();
        D.due("19: after undo", x.withWalls(2), 12);
    }

    private static void promise20WithUps() {
        SpinStrips x = new SpinStrips();
        int[] want = {1, 12, 66, 220, 495, 792, 924, 792, 495, 220, 66, 12, 1};
        for (int ups = 0; ups < want.length; ups++) {
            D.due("20: withUps(" + ups + ", false)", x.withUps(ups, false), want[ups]);
            D.due("20: withUps(" + ups + ", true)", x.withUps(ups, true), ups == 0 || ups == 12 ? 1 : 0);
        }
        for (int ups : FAR) {
            D.due("20: withUps(" + ups + ", false)", x.withUps(ups, false), 0);
            D.due("20: withUps(" + ups + ", true)", x.withUps(ups, true), 0);
        }
        D.due("20: withUps(13, false)", x.withUps(13, false), 0);
        D.due("20: withUps(13, true)", x.withUps(13, true), 0);
        x.setField(1, 1, 1);
        D.due("20: with a field", x.withUps(0, true), 0);
        D.due("20: with a field", x.withUps(12, true), 1);
        x.setPull(true, 0);
        x.setPull(false, 0);
        for (int ups = 1; ups < want.length; ups++) {
            int chosen = ups == 12 ? 1 : want[ups] * ups / 12;
            D.due("20: one must be up, " + ups, x.withUps(ups, true), chosen);
        }
        x.lay(5, 1, true);
        x.setPull(false, -1);
        D.due("20: an odd ring", x.withUps(2, true), 5);
        D.due("20: an odd ring", x.withUps(3, true), 5);
        D.due("20: an odd ring", x.withUps(1, true), 0);
        x.lay(10, 3, true);
        x.setPull(false, 0);
        D.due("20: no pulls, 30 cells", x.withUps(15, true), 155117520);
        D.due("20: no pulls, 30 cells", x.withUps(15, false), 155117520);
        D.due("20: no pulls, 30 cells", x.withUps(30, true), 1);
        D.due("20: no pulls, 30 cells", x.withUps(31, true), 0);
    }

    private static void promise21Heat() {
        SpinStrips x = new SpinStrips();
        int[] wrong = {49, 101, 0, -50, Integer.MIN_VALUE, Integer.MAX_VALUE};
        for (int hundredths : wrong) {
            D.due("21: heat(" + hundredths + ", true)", x.heat(hundredths, true), 0);
            D.due("21: heat(" + hundredths + ", false)", x.heat(hundredths, false), 0);
        }
        x.lay(2, 1, false);
        D.due("21: the sum by half", x.heat(50, false), Float.floatToIntBits(2.5f));
        D.due("21: the mean by half", x.heat(50, true), Float.floatToIntBits(-1.5f / 2.5f));
        D.due("21: the sum by one", x.heat(100, false), Float.floatToIntBits(4.0f));
        D.due("21: the mean by one", x.heat(100, true), 0);
        float b = (float) 73 / 100.0f;
        float weight = 1.0f * b * b;
        float sum = 0.0f + 2.0f * 1.0f + 2.0f * weight;
        float mean = (0.0f + 2.0f * 1.0f * -1.0f + 2.0f * weight * 1.0f) / sum;
        D.due("21: the sum by 0.73", x.heat(73, false), Float.floatToIntBits(sum));
        D.due("21: the mean by 0.73", x.heat(73, true), Float.floatToIntBits(mean));
        x.turn(0, 0);
        D.due("21: whatever the spins are", x.heat(73, true), Float.floatToIntBits(mean));
        x.setPull(false, -2);
        D.due("21: with another pull", x.heat(50, false), Float.floatToIntBits(2.125f));
        x.setPull(false, 0);
        D.due("21: without pulls", x.heat(50, false), Float.floatToIntBits(4.0f));
        D.due("21: without pulls", x.heat(50, true), 0);
        x.lay(1, 1, false);
        D.due("21: energies of 0 alone", x.heat(60, true), 0);
        D.due("21: energies of 0 alone", x.heat(60, false), Float.floatToIntBits(2.0f));
        x.setField(0, 0, 3);
        D.due("21: far from the least one", x.heat(50, false), Float.floatToIntBits(1.0f + 1.0f / 64.0f));
        D.due("21: far from the least one", x.heat(50, true),
                Float.floatToIntBits((-3.0f + 3.0f / 64.0f) / (1.0f + 1.0f / 64.0f)));
    }

    private static void promise22Count() {
        SpinStrips x = Due.read("+-,--,++,+-", true);
        x.setPull(false, -1);
        x.setPull(true, 2);
        x.setField(0, 1, 3);
        x.turn(1, 3);
        // The columns are +-, --, ++, ++ now; both cells of the first one would be turned.
        int[] want = {4, 2, 1, -1, 5, 5, -1, 2, -19, 19, 1, 2, 2, 1, 12, 4, 11};
        for (int what = 0; what < want.length; what++) {
            D.due("22: count(" + what + ")", x.count(what), want[what]);
        }
        int[] wrong = {-1, 17, Integer.MIN_VALUE, Integer.MAX_VALUE};
        for (int what : wrong) {
            D.due("22: count(" + what + ")", x.count(what), -1002);
        }
        x.turnPatch(0, 0);
        int turned = x.count(13);
        int swept = x.sweep(50);
        D.due("22: each cell that is turned counts each time", x.count(13), turned + swept);
        D.due("22: none would be turned now", x.count(12), 0);
        D.due("22: patches of a board", Due.read("+-,-+", false).count(11), 4);
        D.due("22: patches of a ring", Due.read("+-,-+,+-", true).count(11), 4);
        D.due("22: greatest energy first", new SpinStrips().count(9), 16);
        SpinStrips two = new SpinStrips();
        two.count(9);
        two.lay(3, 1, true);
        D.due("22: greatest energy of a ring of 3", two.count(9), 1);
    }
}
