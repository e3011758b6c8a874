/** Promises 7 to 10: turn, turnPatch, sweep, settle. */
public final class TurningTests {
    private static final Due D = new Due();

    public static void main(String[] args) {
        promise7Turn();
        promise8TurnPatch();
        promise8PatchesOfRings();
        promise9Sweep();
        promise9SweepInOrder();
        promise10Settle();
        promise10SettleFirst();
        D.end();
    }

    private static void promise7Turn() {
        SpinStrips x = new SpinStrips();
        int[][] cells = {{2, 0}, {-1, 0}, {0, 6}, {0, -1}, {Integer.MIN_VALUE, 0}, {0, Integer.MAX_VALUE}};
        for (int[] cell : cells) {
            D.due("7: turn(" + cell[0] + ", " + cell[1] + ")", x.turn(cell[0], cell[1]), -1001);
        }
        D.due("7: no acts so far", x.count(15), 0);
        D.due("7: none turned so far", x.count(13), 0);
        x.setField(0, 2, 2);
        D.due("7: turn(0, 2)", x.turn(0, 2), -16 + 6 + 2);
        D.dueSpins("7: turn(0, 2)", x, "++,++,-+,++,++,++");
        D.due("7: turn(1, 5)", x.turn(1, 5), -16 + 6 + 2 + 4);
        D.dueSpins("7: turn(1, 5)", x, "++,++,-+,++,++,+-");
        D.due("7: turned", x.count(13), 2);
        D.due("7: turn back", x.turn(0, 2), -18 + 4);
        D.due("7: turned, each time", x.count(13), 3);
        D.due("7: acts", x.count(15), 4);
        D.due("7: undo", x.undo(), 3);
        D.due("7: turned is of the state", x.count(13), 2);
        D.dueSpins("7: undo", x, "++,++,-+,++,++,+-");
    }

    private static void promise8TurnPatch() {
        SpinStrips x = Due.read("++-,+--,+-+,-++", false);
        int[][] cells = {{3, 0}, {-1, 0}, {0, 4}, {0, -1}, {Integer.MIN_VALUE, 0}, {0, Integer.MAX_VALUE}};
        for (int[] cell : cells) {
            D.due("8: turnPatch(" + cell[0] + ", " + cell[1] + ")", x.turnPatch(cell[0], cell[1]), -1001);
        }
        D.due("8: acts so far", x.count(15), 1);
        D.due("8: patches", x.count(11), 4);
        D.due("8: turnPatch(1, 1)", x.turnPatch(1, 1), 4);
        D.dueSpins("8: turnPatch(1, 1)", x, "+++,+++,+++,-++");
        D.due("8: turned", x.count(13), 4);
        D.due("8: turnPatch(2, 3)", x.turnPatch(2, 3), 11);
        D.dueSpins("8: turnPatch(2, 3)", x, "---,---,---,---");
        D.due("8: turned", x.count(13), 15);
        D.due("8: all of them", x.turnPatch(0, 0), 12);
        D.due("8: acts", x.count(15), 4);
        D.due("8: undo", x.undo(), 3);
        D.dueSpins("8: undo", x, "---,---,---,---");
        x.setPull(false, -2);
        x.setPull(true, 0);
        D.due("8: whatever the pulls are", x.turnPatch(0, 0), 12);
        SpinStrips board = Due.read("+-+,-+-,+-+", true);
        D.due("8: one of a board", board.turnPatch(1, 1), 1);
        SpinStrips snake = Due.read("+++,--+,+++,+--,+++,--+,+++,+--,+++,--+", false);
        D.due("8: a snake", snake.turnPatch(0, 0), 20);
        D.dueSpins("8: a snake", snake, "---,---,---,---,---,---,---,---,---,---");
    }

    private static void promise8PatchesOfRings() {
        SpinStrips strip = Due.read("++,--,--,+-", false);
        D.due("8: not over the ends of a strip", strip.turnPatch(0, 0), 2);
        SpinStrips ring = Due.read("++,--,--,+-", true);
        D.due("8: over the seam from the first", ring.turnPatch(0, 0), 3);
        D.dueSpins("8: over the seam from the first", ring, "--,--,--,--");
        ring = Due.read("++,--,--,+-", true);
        D.due("8: over the seam from the last", ring.turnPatch(0, 3), 3);
        D.due("8: no seam from column 1", Due.read("+,-,+,-,+", true).turnPatch(0, 1), 1);
        D.due("8: two columns", Due.read("+-,-+", true).turnPatch(0, 0), 1);
        D.due("8: three columns", Due.read("+--,-++,+--", true).turnPatch(1, 0), 4);
        D.due("8: ten columns, both ways", Due.read("+++,---,---,+++,---,---,---,---,---,+++", true).turnPatch(2, 9), 6);
    }

    private static void promise9Sweep() {
        SpinStrips x = new SpinStrips();
        int[] wrong = {0, -1, 51, Integer.MIN_VALUE, Integer.MAX_VALUE};
        for (int times : wrong) {
            D.due("9: sweep(" + times + ")", x.sweep(times), -1002);
        }
        D.due("9: sweep(1) where none is turned", x.sweep(1), -1005);
        D.due("9: sweep(50) where none is turned", x.sweep(50), -1005);
        D.due("9: no acts so far", x.count(15), 0);
        x.turn(0, 2);
        D.due("9: wrong times are told first", x.sweep(51), -1002);
        D.due("9: sweep(50)", x.sweep(50), 1);
        D.dueSpins("9: sweep(50)", x, "++,++,++,++,++,++");
        D.due("9: turned", x.count(13), 2);
        D.due("9: acts", x.count(15), 2);
        D.due("9: undo", x.undo(), 1);
        D.dueSpins("9: undo", x, "++,++,-+,++,++,++");
        D.due("9: turned is of the state", x.count(13), 1);
        SpinStrips level = Due.read("+,+,-,-", false);
        D.due("9: a gain of 0 does not turn", level.sweep(3), -1005);
    }

    private static void promise9SweepInOrder() {
        // Rows first: in the first column the upper cell is turned and makes the lower one's gain go.
        SpinStrips x = Due.read("++,++", false);
        x.setPull(true, -2);
        D.due("9: would be turned", x.count(12), 4);
        D.due("9: sweep in order", x.sweep(1), 2);
        D.dueSpins("9: sweep in order", x, "-+,-+");
        // A cell that is turned can give a gain to one before it, which the next sweep turns.
        SpinStrips slow = Due.read("+,+,+,+,+,-", false);
        slow.setField(0, 4, -1);
        D.due("9: first sweep", slow.sweep(1), 1);
        D.dueSpins("9: first sweep", slow, "+,+,+,+,-,-");
        D.due("9: no more", slow.sweep(1), -1005);
        slow.setField(0, 0, -2);
        D.due("9: a cell with a field alone", slow.sweep(1), 1);
        slow.setField(0, 3, -1);
        slow.setField(0, 2, -1);
        D.due("9: as many sweeps as asked for", slow.sweep(1), 1);
        D.dueSpins("9: as many sweeps as asked for", slow, "-,+,+,-,-,-");
        D.due("9: until none is turned", slow.sweep(50), 2);
        D.dueSpins("9: until none is turned", slow, "-,-,-,-,-,-");
        D.due("9: turned in all", slow.count(13), 5);
    }

    private static void promise10Settle() {
        SpinStrips x = new SpinStrips();
        D.due("10: all down comes first", x.settle(), -16);
        D.dueSpins("10: all down comes first", x, "--,--,--,--,--,--");
        D.due("10: so already", x.settle(), -1005);
        D.due("10: one act", x.count(15), 1);
        D.due("10: settle turns none", x.count(13), 0);
        x.setField(0, 0, 1);
        D.due("10: with a field", x.settle(), -17);
        D.dueSpins("10: with a field", x, "++,++,++,++,++,++");
        D.due("10: undo", x.undo(), 2);
        D.dueSpins("10: undo", x, "--,--,--,--,--,--");
    }

    private static void promise10SettleFirst() {
        SpinStrips free = new SpinStrips();
        free.setPull(true, 0);
        free.setPull(false, 0);
        free.setField(1, 2, 1);
        D.due("10: without pulls", free.settle(), -1);
        D.dueSpins("10: without pulls", free, "--,--,-+,--,--,--");
        SpinStrips board = new SpinStrips();
        board.lay(3, 3, false);
        board.setPull(true, -1);
        board.setPull(false, -1);
        D.due("10: a board", board.settle(), -12);
        D.dueSpins("10: a board", board, "-+-,+-+,-+-");
        SpinStrips odd = new SpinStrips();
        odd.lay(5, 1, true);
        odd.setPull(false, -1);
        D.due("10: an odd ring", odd.settle(), -3);
        D.dueSpins("10: an odd ring", odd, "-,-,+,-,+");
        // Row 0 counts more than row 1: the down of the first one comes first.
        SpinStrips rows = new SpinStrips();
        rows.lay(1, 3, true);
        rows.setPull(true, -1);
        rows.setField(1, 0, 1);
        rows.setField(0, 0, 2);
        rows.setField(2, 0, 1);
        D.due("10: rows in order", rows.settle(), -4);
        D.dueSpins("10: rows in order", rows, "+-+");
        rows.setField(0, 0, 0);
        rows.setField(2, 0, 0);
        D.due("10: rows in order", rows.settle(), -3);
        D.dueSpins("10: rows in order", rows, "-+-");
        rows.setField(1, 0, 0);
        D.due("10: down in row 0 comes first", rows.settle(), -1005);
        SpinStrips up = new SpinStrips();
        up.lay(4, 1, false);
        up.setField(0, 0, 2);
        up.turn(0, 0);
        D.due("10: the first one up", up.settle(), -5);
        D.dueSpins("10: the first one up", up, "+,+,+,+");
        SpinStrips walls = new SpinStrips();
        walls.lay(4, 2, false);
        walls.setField(0, 0, -3);
        walls.setField(0, 3, 3);
        D.due("10: walls as late as can be", walls.settle(), -12);
        D.dueSpins("10: walls as late as can be", walls, "--,--,--,+-");
    }
}
