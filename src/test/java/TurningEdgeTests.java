/** The boundary cases of "TURNING" and of promises 7 to 10; each test names the sentence that it is for. */
public final class TurningEdgeTests {
    private static final int MIN = Integer.MIN_VALUE;
    private static final int MAX = Integer.MAX_VALUE;
    private static final String BOARD = "+-+,-+-,+-+,-+-,+-+,-+-,+-+,-+-,+-+,-+-";
    private static final Due D = new Due();

    public static void main(String[] args) {
        turnAtTheCorners();
        turnOfOneCell();
        turnTwiceIsAsBefore();
        turnOfCellsThatAreNot();
        turnIsAnAct();
        gainAboveAndBelow0();
        gainOverTheSeam();
        gainIsWhatTurningTakes();
        reasonsAround0();
        patchOfOneCell();
        patchOfAllCells();
        patchOverTheSeam();
        patchOfFewColumns();
        patchOfOneRowAlone();
        patchWhateverThePullsAre();
        patchGoesAllWays();
        turnPatchOfCellsThatAreNot();
        turnPatchIsAnAct();
        sweepTimes();
        sweepTimesOutOfRange();
        sweepAtMostSoManyTimes();
        sweepUntilNoneIsTurned();
        sweepThatTurnsNone();
        sweepLeavesGainsOf0();
        sweepByColumnsFrom0();
        sweepByRowsFrom0();
        sweepAsTheGainIsThen();
        sweepOverTheSeam();
        sweepCountsEachTime();
        sweepIsAnAct();
        settleOfSpinsThatAreSoAlready();
        settleOfAnotherOneOfTheLeast();
        settleWhereAllAreLeast();
        settleOfOneCell();
        settleColumnsBeforeRows();
        settleAtTheLastCell();
        settleOfRings();
        settleOfTheGreatestOnes();
        settleIsAnActAndTurnsNone();
        D.end();
    }

    private static void turnAtTheCorners() {
        String sentence = "7: turns a cell, returns the energy then: ";
        SpinStrips x = Starts.laid(10, 3, true);
        D.due(sentence + "first row, first column", x.turn(0, 0), -44);
        D.due(sentence + "last row, last column", x.turn(2, 9), -38);
        D.due(sentence + "last row, first column", x.turn(2, 0), -36);
        D.due(sentence + "first row, last column", x.turn(0, 9), -34);
        D.dueSpins(sentence + "the corners", x, "-+-,+++,+++,+++,+++,+++,+++,+++,+++,-+-");
        SpinStrips open = Starts.laid(10, 3, false);
        D.due(sentence + "no seam, first column", open.turn(0, 0), -43);
        D.due(sentence + "no seam, last column", open.turn(0, 9), -39);
        D.due(sentence + "greatest energy", Starts.whole(-2, -3).turn(1, 5), 190 - 22);
        D.due(sentence + "least energy", Starts.whole(2, 3).turn(1, 5), -190 + 22);
    }

    private static void turnOfOneCell() {
        SpinStrips x = Starts.laid(1, 1, true);
        D.due("7: one cell: turn", x.turn(0, 0), 0);
        D.due("7: one cell: spin", x.cell(0, 0, 0), -1);
        D.due("7: one cell: turn again", x.turn(0, 0), 0);
        D.due("7: one cell: spin again", x.cell(0, 0, 0), 1);
        D.due("7: one cell: turned", x.count(13), 2);
    }

    private static void turnTwiceIsAsBefore() {
        for (int column = 0; column < 5; column++) {
            for (int row = 0; row < 3; row++) {
                SpinStrips x = Starts.busy();
                int energy = x.count(3);
                String spins = Due.spins(x);
                String at = "Terms: to turn a cell changes its spin to the other one: " + row + ", " + column;
                int spin = x.cell(row, column, 0);
                x.turn(row, column);
                D.due(at, x.cell(row, column, 0), -spin);
                D.due(at + " twice, the energy", x.turn(row, column), energy);
                D.dueSpins(at + " twice", x, spins);
            }
        }
    }

    private static int[][] noCells(int columns, int rows) {
        return new int[][] {{-1, 0}, {rows, 0}, {0, -1}, {0, columns}, {rows - 1, columns}, {rows, columns - 1},
            {-1, columns - 1}, {rows - 1, -1}, {-1, -1}, {rows, columns}, {MIN, 0}, {MAX, 0}, {0, MIN}, {0, MAX},
            {MIN, MIN}, {MAX, MAX}, {-4, 1}, {4, -1}, {4, 0}, {-3, 1}, {3, -1}, {0, 1 << 30}, {1 << 30, 0}};
    }

    private static void turnOfCellsThatAreNot() {
        for (int[] at : noCells(6, 2)) {
            D.refused("7: UNKNOWN: " + at[0] + ", " + at[1], Starts::fresh, x -> x.turn(at[0], at[1]), -1001);
        }
        for (int[] at : noCells(5, 3)) {
            D.refused("7: UNKNOWN: " + at[0] + ", " + at[1], Starts::busy, x -> x.turn(at[0], at[1]), -1001);
        }
        for (int[] at : noCells(1, 1)) {
            D.refused("7: UNKNOWN: " + at[0] + ", " + at[1], () -> Starts.laid(1, 1, true), x -> x.turn(at[0], at[1]), -1001);
        }
    }

    private static void turnIsAnAct() {
        SpinStrips x = Starts.busy();
        int energy = x.count(3) - x.cell(2, 4, 2);
        D.recorded("7: this is an act", Starts::busy, y -> y.turn(2, 4), energy);
        D.recorded("7: this is an act, where no energy is changed", () -> Starts.laid(1, 1, false), y -> y.turn(0, 0), 0);
    }

    private static void gainAboveAndBelow0() {
        String sentence = "Terms: the gain of a cell (it may be below 0): ";
        SpinStrips least = Starts.whole(2, 3);
        D.due(sentence + "the least one", least.cell(1, 5, 2), -22);
        least.turn(1, 5);
        D.due(sentence + "the greatest one", least.cell(1, 5, 2), 22);
        SpinStrips greatest = Starts.whole(-2, -3);
        D.due(sentence + "the greatest one of spins up", greatest.cell(1, 0, 2), 22);
        D.due(sentence + "in row 0", greatest.cell(0, 9, 2), 18);
        D.due(sentence + "of no pulls and fields", Starts.whole(0, 0).cell(1, 5, 2), 0);
        D.due(sentence + "of one cell", Starts.laid(1, 1, true).cell(0, 0, 2), 0);
    }

    private static void gainOverTheSeam() {
        String sentence = "Terms: the gain, with the neighbours over the seam: ";
        D.due(sentence + "first column", Due.read("+,+,-", true).cell(0, 0, 2), 0);
        D.due(sentence + "last column", Due.read("+,+,-", true).cell(0, 2, 2), 4);
        D.due(sentence + "first column, no seam", Due.read("+,+,-", false).cell(0, 0, 2), -2);
        D.due(sentence + "last column, no seam", Due.read("+,+,-", false).cell(0, 2, 2), 2);
        D.due(sentence + "two columns", Due.read("+,-", true).cell(0, 0, 2), 2);
    }

    private static void gainIsWhatTurningTakes() {
        for (boolean ring : new boolean[] {false, true}) {
            for (int column = 0; column < 5; column++) {
                for (int row = 0; row < 3; row++) {
                    SpinStrips x = Starts.busy();
                    x.close(ring);
                    int gain = x.cell(row, column, 2);
                    int energy = x.count(3);
                    String at = "Terms: by how much turning it makes the energy less: " + row + ", " + column;
                    D.due(at, energy - x.turn(row, column), gain);
                    D.due(at + ", turned back", x.cell(row, column, 2), -gain);
                }
            }
        }
    }

    private static void reasonsAround0() {
        String sentence = "Terms: the reasons: ";
        SpinStrips x = Starts.laid(1, 1, false);
        D.due(sentence + "1, its gain is 0", x.cell(0, 0, 3), 1);
        x.setField(0, 0, 1);
        D.due(sentence + "a gain of -2", x.cell(0, 0, 2), -2);
        D.due(sentence + "2, its gain is below 0", x.cell(0, 0, 3), 2);
        x.setField(0, 0, -1);
        D.due(sentence + "a gain of 2", x.cell(0, 0, 2), 2);
        D.due(sentence + "0, it would be turned", x.cell(0, 0, 3), 0);
        x.turn(0, 0);
        D.due(sentence + "a spin down with its field", x.cell(0, 0, 3), 2);
        D.due(sentence + "the least gain", Starts.whole(2, 3).cell(1, 1, 3), 2);
        D.due(sentence + "the greatest gain", Starts.whole(-2, -3).cell(1, 1, 3), 0);
    }

    private static void patchOfOneCell() {
        D.due("8: one cell is a patch", Starts.laid(1, 1, false).turnPatch(0, 0), 1);
        for (int column = 0; column < 10; column++) {
            SpinStrips x = Due.read(BOARD, true);
            D.due("8: a patch without like neighbours, size", x.cell(column % 3, column, 6), 1);
            D.due("8: a patch without like neighbours", x.turnPatch(column % 3, column), 1);
            D.due("8: just that one is turned", x.count(5), x.cell(column % 3, column, 0) == 1 ? 16 : 14);
        }
    }

    private static void patchOfAllCells() {
        for (int columns : new int[] {1, 2, 3, 10}) {
            for (int rows = 1; rows <= 3; rows++) {
                for (boolean ring : new boolean[] {false, true}) {
                    SpinStrips x = Starts.laid(columns, rows, ring);
                    D.due("8: a patch of all cells", x.turnPatch(rows - 1, columns - 1), columns * rows);
                    D.due("8: a patch of all cells, all are down", x.count(5), 0);
                    D.due("8: a patch of all cells, turned back", x.turnPatch(0, 0), columns * rows);
                    D.due("8: a patch of all cells, all are up", x.count(5), columns * rows);
                    D.due("8: a patch of all cells, turned", x.count(13), 2 * columns * rows);
                }
            }
        }
    }

    private static void patchOverTheSeam() {
        String sentence = "Terms: a patch (in a ring over its seam, too): ";
        String two = "+++,---,---,---,---,---,---,---,---,+++";
        D.due(sentence + "from the first column", Due.read(two, true).turnPatch(0, 0), 6);
        D.due(sentence + "from the last column", Due.read(two, true).turnPatch(2, 9), 6);
        D.due(sentence + "the first column of a strip", Due.read(two, false).turnPatch(0, 0), 3);
        D.due(sentence + "the last column of a strip", Due.read(two, false).turnPatch(2, 9), 3);
        D.due(sentence + "patches of the ring", Due.read(two, true).count(11), 2);
        D.due(sentence + "patches of the strip", Due.read(two, false).count(11), 3);
        D.due(sentence + "the seam keeps the row", Due.read("+--,---,--+", true).turnPatch(0, 0), 1);
        D.due(sentence + "one row of it", Due.read("-+-,---,-+-", true).turnPatch(1, 0), 2);
        SpinStrips x = Due.read("+-,--,-+,-+,++", true);
        D.due(sentence + "on behind the seam", x.turnPatch(1, 2), 5);
        D.dueSpins(sentence + "on behind the seam", x, "--,--,--,--,--");
    }

    private static void patchOfFewColumns() {
        String sentence = "Terms: a patch of a ring with fewer than 3 columns: ";
        D.due(sentence + "two columns", Due.read("+-,-+", true).turnPatch(0, 0), 1);
        D.due(sentence + "two columns, alike", Due.read("+-,+-", true).turnPatch(0, 0), 2);
        D.due(sentence + "one column", Due.read("+-+", true).turnPatch(0, 0), 1);
        D.due(sentence + "one column, its end", Due.read("+-+", true).turnPatch(2, 0), 1);
        D.due(sentence + "three columns", Due.read("+-,--,+-", true).turnPatch(0, 2), 2);
        D.due(sentence + "three columns of a strip", Due.read("+-,--,+-", false).turnPatch(0, 2), 1);
    }

    private static void patchOfOneRowAlone() {
        String sentence = "Terms: a patch is joined by neighbours alone: ";
        D.due(sentence + "row 2 and row 0 of the next column", Due.read("--+,+--", false).turnPatch(2, 0), 1);
        D.due(sentence + "row 0 and row 2 of the one before", Due.read("--+,+--", false).turnPatch(0, 1), 1);
        D.due(sentence + "cells that touch at a corner", Due.read("+-,-+,+-", false).turnPatch(1, 1), 1);
        D.due(sentence + "like cells beyond unlike ones", Due.read("+,-,+", false).turnPatch(0, 0), 1);
    }

    private static void patchWhateverThePullsAre() {
        for (int along = -2; along <= 2; along++) {
            for (int across = -2; across <= 2; across++) {
                SpinStrips x = Due.read("++,+-,--,+-", true);
                x.setPull(false, along);
                x.setPull(true, across);
                x.setField(0, 0, -3);
                D.due("Terms: a patch (whatever the pulls are): size", x.cell(0, 0, 6), 4);
                D.due("Terms: a patch (whatever the pulls are)", x.turnPatch(1, 0), 4);
                D.dueSpins("Terms: a patch (whatever the pulls are)", x, "--,--,--,--");
            }
        }
    }

    private static void patchGoesAllWays() {
        String sentence = "Terms: a patch is all cells that are joined: ";
        String snake = "+++,--+,+++,+--,+++,--+,+++,+--,+++,--+";
        for (int[] at : new int[][] {{0, 0}, {2, 9}, {1, 4}}) {
            D.due(sentence + "a snake from " + at[0] + ", " + at[1], Due.read(snake, false).turnPatch(at[0], at[1]), 20);
        }
        String comb = "+++,+-+,+++,+-+,+-+";
        D.due(sentence + "a comb from its end", Due.read(comb, false).turnPatch(2, 4), 12);
        D.due(sentence + "a comb from its other end", Due.read(comb, false).turnPatch(0, 4), 12);
        D.due(sentence + "a hole", Due.read(comb, false).turnPatch(1, 1), 1);
        D.due(sentence + "a hole at the end", Due.read(comb, false).turnPatch(1, 3), 2);
    }

    private static void turnPatchOfCellsThatAreNot() {
        for (int[] at : noCells(6, 2)) {
            D.refused("8: UNKNOWN: " + at[0] + ", " + at[1], Starts::fresh, x -> x.turnPatch(at[0], at[1]), -1001);
        }
        for (int[] at : noCells(5, 3)) {
            D.refused("8: UNKNOWN: " + at[0] + ", " + at[1], Starts::busy, x -> x.turnPatch(at[0], at[1]), -1001);
        }
        for (int[] at : noCells(1, 1)) {
            D.refused("8: UNKNOWN: " + at[0] + ", " + at[1], () -> Starts.laid(1, 1, true),
                    x -> x.turnPatch(at[0], at[1]), -1001);
        }
    }

    private static void turnPatchIsAnAct() {
        for (int column = 0; column < 5; column++) {
            int c = column;
            int size = Starts.busy().cell(0, column, 6);
            D.recorded("8: this is an act", Starts::busy, x -> x.turnPatch(0, c), size);
        }
    }

    /** Ten cells in a row of which each sweep turns just the last one that is still up. */
    private static SpinStrips slow() {
        SpinStrips x = Starts.laid(10, 1, false);
        for (int column = 0; column < 10; column++) {
            x.setField(0, column, column < 9 ? -1 : -2);
        }
        return x;
    }

    private static void sweepTimes() {
        D.due("9: times: 1 to 50: 1", slow().sweep(1), 1);
        D.due("9: times: 1 to 50: 2", slow().sweep(2), 2);
        D.due("9: times: 1 to 50: 49", slow().sweep(49), 10);
        D.due("9: times: 1 to 50: 50", slow().sweep(50), 10);
    }

    private static SpinStrips settled() {
        SpinStrips x = Starts.busy();
        x.settle();
        return x;
    }

    private static void sweepTimesOutOfRange() {
        for (int times : new int[] {0, 51, -1, 52, MIN, MAX, 1 << 16}) {
            D.refused("9: times: 1 to 50: " + times, TurningEdgeTests::slow, x -> x.sweep(times), -1002);
            D.refused("9: times: 1 to 50: " + times + " of a busy one", Starts::busy, x -> x.sweep(times), -1002);
            D.refused("9: BAD_VALUE before NONE: " + times, TurningEdgeTests::settled, x -> x.sweep(times), -1002);
            D.refused("9: BAD_VALUE before NONE: " + times + " of a new one", Starts::fresh, x -> x.sweep(times), -1002);
        }
    }

    private static void sweepAtMostSoManyTimes() {
        for (int times = 1; times <= 10; times++) {
            SpinStrips x = slow();
            D.due("9: at most so many times: " + times, x.sweep(times), times);
            D.due("9: at most so many times: " + times + ", up then", x.count(5), 10 - times);
            D.due("9: at most so many times: " + times + ", turned so far", x.count(13), times);
            D.due("9: at most so many times: " + times + ", would be turned", x.count(12), times < 10 ? 1 : 0);
        }
    }

    private static void sweepUntilNoneIsTurned() {
        for (int times : new int[] {10, 11, 50}) {
            SpinStrips x = slow();
            D.due("9: until a sweep turns no cell: " + times, x.sweep(times), 10);
            D.due("9: until a sweep turns no cell: " + times + ", then", x.sweep(times), -1005);
        }
        SpinStrips x = slow();
        x.sweep(4);
        D.due("9: until a sweep turns no cell: the rest", x.sweep(50), 6);
        D.due("9: until a sweep turns no cell: all are down", x.count(5), 0);
    }

    private static void sweepThatTurnsNone() {
        for (int times : new int[] {1, 50}) {
            D.refused("9: NONE if none is: " + times, Starts::fresh, x -> x.sweep(times), -1005);
            D.refused("9: NONE if none is: " + times + " of a settled one", TurningEdgeTests::settled, x -> x.sweep(times), -1005);
            D.refused("9: NONE if none is: " + times + " of one cell", () -> Starts.laid(1, 1, true), x -> x.sweep(times), -1005);
            D.refused("9: NONE if none is: " + times + " of no pulls", () -> Starts.whole(0, 0), x -> x.sweep(times), -1005);
        }
    }

    private static void sweepLeavesGainsOf0() {
        String sentence = "Terms: turns each one whose gain is above 0: ";
        D.due(sentence + "gains of 0 and below", Due.read("+,+,-,-", false).sweep(50), -1005);
        D.due(sentence + "gains of 0 and below in a ring", Due.read("+,+,-,-", true).sweep(50), -1005);
        SpinStrips x = Due.read("+,+,-,-", false);
        x.setField(0, 2, 1);
        D.due(sentence + "a gain of 2", x.cell(0, 2, 2), 2);
        D.due(sentence + "a gain of 2, swept once", x.sweep(1), 2);
        D.dueSpins(sentence + "a gain of 2, and the one behind it then", x, "+,+,+,+");
    }

    private static void sweepByColumnsFrom0() {
        String sentence = "Terms: a sweep goes column by column from 0: ";
        SpinStrips x = Starts.laid(10, 1, false);
        for (int column = 0; column < 10; column++) {
            x.setField(0, column, column > 0 ? -1 : -2);
        }
        D.due(sentence + "each one after the one before it", x.sweep(1), 10);
        SpinStrips unlike = Starts.laid(2, 1, false);
        unlike.setPull(false, -1);
        D.due(sentence + "both would be turned", unlike.count(12), 2);
        D.due(sentence + "just the first one is", unlike.sweep(50), 1);
        D.dueSpins(sentence + "just the first one is", unlike, "-,+");
    }

    private static void sweepByRowsFrom0() {
        String sentence = "Terms: a sweep goes in each column by rows from 0: ";
        SpinStrips down = Starts.laid(1, 3, false);
        SpinStrips up = Starts.laid(1, 3, false);
        for (int row = 0; row < 3; row++) {
            down.setField(row, 0, row > 0 ? -1 : -2);
            up.setField(row, 0, row < 2 ? -1 : -2);
        }
        D.due(sentence + "each one after the one before it", down.sweep(1), 3);
        D.due(sentence + "one of them, first sweep", up.sweep(1), 1);
        D.due(sentence + "one of them, second sweep", up.sweep(1), 1);
        D.due(sentence + "one of them, third sweep", up.sweep(1), 1);
        SpinStrips unlike = Starts.laid(1, 2, false);
        unlike.setPull(true, -1);
        D.due(sentence + "just the first one is", unlike.sweep(50), 1);
        D.dueSpins(sentence + "just the first one is", unlike, "-+");
    }

    private static void sweepAsTheGainIsThen() {
        String sentence = "Terms: whose gain is above 0 as it is then: ";
        SpinStrips x = Starts.laid(4, 3, false);
        x.setPull(false, -1);
        x.setPull(true, -1);
        D.due(sentence + "all would be turned", x.count(12), 12);
        D.due(sentence + "not those whose gain has gone by then", x.sweep(1), 7);
        D.dueSpins(sentence + "not those whose gain has gone by then", x, "--+,-+-,--+,+-+");
    }

    private static void sweepOverTheSeam() {
        String sentence = "Terms: a sweep over the seam of a ring: ";
        D.due(sentence + "column 0 has both neighbours", Due.read("-,+,-", true).sweep(50), 1);
        D.due(sentence + "column 0 of a strip has one", Due.read("-,+,-", false).sweep(50), 2);
        SpinStrips ring = Starts.laid(3, 1, true);
        ring.setPull(false, -1);
        D.due(sentence + "the last column sees that column 0 is turned", ring.sweep(50), 1);
        D.dueSpins(sentence + "the last column sees that column 0 is turned", ring, "-,+,+");
        SpinStrips strip = Starts.laid(3, 1, false);
        strip.setPull(false, -1);
        D.due(sentence + "that of a strip does not", strip.sweep(50), 2);
        D.dueSpins(sentence + "that of a strip does not", strip, "-,+,-");
        SpinStrips two = Starts.laid(2, 1, true);
        two.setPull(false, -1);
        two.setField(0, 0, 1);
        D.due(sentence + "two columns have one pair", two.sweep(50), 1);
        D.dueSpins(sentence + "two columns have one pair", two, "+,-");
    }

    private static void sweepCountsEachTime() {
        // The first cell goes down; the second one does for its field; so the first one goes up again.
        SpinStrips x = Starts.laid(2, 1, false);
        x.setPull(false, -1);
        x.setField(0, 1, -2);
        x.keep();
        D.due("9: how many cells are turned in all, one of them twice", x.sweep(50), 3);
        D.dueSpins("9: one of them twice", x, "+,-");
        D.due("22: turned so far (each time)", x.count(13), 3);
        x.restore();
        D.due("9: how many cells are turned in all, in one sweep", x.sweep(1), 2);
        D.dueSpins("9: in one sweep", x, "-,-");
        D.due("22: turned so far (each time), in one sweep", x.count(13), 2);
    }

    private static void sweepIsAnAct() {
        D.recorded("9: this is an act, once", TurningEdgeTests::slow, x -> x.sweep(1), 1);
        D.recorded("9: this is an act, one for all sweeps", TurningEdgeTests::slow, x -> x.sweep(50), 10);
        int turned = Starts.busy().sweep(50);
        D.due("9: some of a busy one are turned", turned > 0 ? 1 : 0, 1);
        D.recorded("9: this is an act of a busy one", Starts::busy, x -> x.sweep(50), turned);
    }

    private static void settleOfSpinsThatAreSoAlready() {
        D.refused("10: NONE if the spins are so already: a busy one", TurningEdgeTests::settled, SpinStrips::settle, -1005);
        D.refused("10: NONE: one cell down", () -> Due.read("-", false), SpinStrips::settle, -1005);
        D.refused("10: NONE: all down", () -> Due.read("---,---,---,---,---,---,---,---,---,---", true),
                SpinStrips::settle, -1005);
        SpinStrips up = Starts.laid(1, 1, false);
        up.setField(0, 0, 1);
        D.due("10: NONE: one cell up, with a field", up.settle(), -1005);
    }

    private static void settleOfAnotherOneOfTheLeast() {
        String sentence = "10: of all that have the least energy the first one: ";
        D.recorded(sentence + "all up has it too", Starts::fresh, SpinStrips::settle, -16);
        SpinStrips x = Due.read("+,-,+,-", false);
        x.setPull(false, -2);
        D.due(sentence + "the other board", x.settle(), -6);
        D.dueSpins(sentence + "the other board", x, "-,+,-,+");
        D.due(sentence + "then it is so", x.settle(), -1005);
    }

    private static void settleWhereAllAreLeast() {
        SpinStrips x = Starts.whole(0, 0);
        D.due("10: where all strips have the least energy", x.settle(), 0);
        D.due("10: where all strips have the least energy, all are down", x.count(5), 0);
        D.due("10: where all strips have the least energy, again", x.settle(), -1005);
        x.turn(2, 9);
        D.due("10: just the last cell is up", x.settle(), 0);
        D.due("10: just the last cell was up", x.count(5), 0);
    }

    private static void settleOfOneCell() {
        for (int field = -3; field <= 3; field++) {
            for (boolean up : new boolean[] {false, true}) {
                SpinStrips x = Due.read(up ? "+" : "-", true);
                x.setField(0, 0, field);
                boolean best = field > 0;
                D.due("10: one cell, field " + field + ", " + up, x.settle(), up == best ? -1005 : -Math.abs(field));
                D.due("10: one cell then, field " + field + ", " + up, x.cell(0, 0, 0), best ? 1 : -1);
            }
        }
    }

    private static void settleColumnsBeforeRows() {
        // Two strips have the least energy; by columns the one comes first, by rows it would be the other one.
        SpinStrips x = Starts.laid(2, 2, false);
        x.setPull(false, -1);
        x.setField(0, 0, 3);
        x.setField(1, 0, -1);
        x.setField(0, 1, 1);
        D.due("10: column by column, two have it", x.count(10), 2);
        D.due("10: column by column", x.settle(), -5);
        D.dueSpins("10: column by column", x, "+-,++");
        // In one column: a down in row 0 comes first, whatever is behind it.
        SpinStrips rows = Starts.laid(1, 3, false);
        rows.setPull(true, -1);
        D.due("10: by rows from 0", rows.settle(), -2);
        D.dueSpins("10: by rows from 0", rows, "-+-");
        // Both have an up in row 0; row 1 is unlike first.
        SpinStrips second = Starts.laid(1, 3, false);
        second.setPull(true, -2);
        second.setField(0, 0, 3);
        second.setField(2, 0, -3);
        D.due("10: by rows, two have it", second.count(10), 2);
        D.due("10: by rows, the second one is unlike", second.settle(), -6);
        D.dueSpins("10: by rows, the second one is unlike", second, "+--");
    }

    private static void settleAtTheLastCell() {
        // All cells but the last one are held up by fields; the last one is free.
        SpinStrips x = Starts.whole(0, 3);
        x.setField(2, 9, 0);
        D.due("10: unlike at the last cell alone", x.settle(), -87);
        D.dueSpins("10: unlike at the last cell alone", x, "+++,+++,+++,+++,+++,+++,+++,+++,+++,++-");
        SpinStrips first = Starts.whole(0, 3);
        first.setField(0, 0, 0);
        D.due("10: unlike at the first cell alone", first.settle(), -87);
        D.dueSpins("10: unlike at the first cell alone", first, "-++,+++,+++,+++,+++,+++,+++,+++,+++,+++");
    }

    private static void settleOfRings() {
        String sentence = "10: the seam of a ring: ";
        SpinStrips three = Starts.laid(3, 1, true);
        three.setPull(false, -1);
        D.due(sentence + "3 columns", three.settle(), -1);
        D.dueSpins(sentence + "3 columns", three, "-,-,+");
        three.close(false);
        D.due(sentence + "opened", three.settle(), -2);
        D.dueSpins(sentence + "opened", three, "-,+,-");
        SpinStrips nine = Starts.laid(9, 1, true);
        nine.setPull(false, -2);
        D.due(sentence + "9 columns", nine.settle(), -14);
        D.dueSpins(sentence + "9 columns", nine, "-,-,+,-,+,-,+,-,+");
        SpinStrips held = Starts.laid(4, 1, true);
        held.setField(0, 3, 3);
        held.setField(0, 1, -1);
        D.due(sentence + "the last column holds the first one", held.settle(), -1005);
        SpinStrips two = Starts.laid(2, 1, true);
        two.setPull(false, -1);
        D.due(sentence + "2 columns", two.settle(), -1);
        D.dueSpins(sentence + "2 columns", two, "-,+");
    }

    private static void settleOfTheGreatestOnes() {
        SpinStrips up = Starts.whole(2, 3);
        D.due("10: the least energy of all", up.settle(), -1005);
        up.turnPatch(0, 0);
        D.due("10: the least energy of all, from down", up.settle(), -190);
        D.due("10: the least energy of all, all are up", up.count(5), 30);
        SpinStrips down = Starts.whole(2, -3);
        D.due("10: the least energy of all, fields below 0", down.settle(), -190);
        D.due("10: the least energy of all, all are down", down.count(5), 0);
        SpinStrips board = Starts.whole(-2, 0);
        D.due("10: a board", board.settle(), -100);
        D.dueSpins("10: a board", board, "-+-,+-+,-+-,+-+,-+-,+-+,-+-,+-+,-+-,+-+");
    }

    private static void settleIsAnActAndTurnsNone() {
        SpinStrips x = Starts.busy();
        int least = x.count(8);
        int turned = x.count(13);
        D.recorded("10: this is an act", Starts::busy, SpinStrips::settle, least);
        D.due("10: returns the energy then", x.settle(), least);
        D.due("10: the energy is told so", x.count(3), least);
        D.due("22: turned so far by turn(), turnPatch() and sweep(), not by settle()", x.count(13), turned);
        D.due("10: none would be turned then", x.count(12), 0);
    }
}
