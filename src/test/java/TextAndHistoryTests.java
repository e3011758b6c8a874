/** Promises 11 to 15: type, clearText, undo, keep, restore. */
public final class TextAndHistoryTests {
    private static final Due D = new Due();

    public static void main(String[] args) {
        promise11Type();
        promise12ClearText();
        promise13Undo();
        promise13EachActIsRecorded();
        promise14Keep();
        promise15Restore();
        D.end();
    }

    private static void promise11Type() {
        SpinStrips x = new SpinStrips();
        char[] any = {'+', '-', ',', 0, (char) 127, (char) 255, (char) 256, (char) 65535};
        for (int i = 0; i < 60; i++) {
            D.due("11: type, " + i + " before", x.type(any[i % any.length]), i + 1);
            D.due("11: length", x.count(16), i + 1);
        }
        D.due("11: one more", x.type('+'), -1003);
        D.due("11: and another", x.type((char) 0), -1003);
        D.due("11: length stays", x.count(16), 60);
        D.due("11: no act", x.count(15), 0);
        D.due("11: the first sign is not allowed at 1", x.clearText(), 60);
        x.type('+');
        x.type((char) ('+' + 256));
        D.due("11: characters are kept whole", x.read(), -1101);
    }

    private static void promise12ClearText() {
        SpinStrips x = new SpinStrips();
        D.due("12: clearText() of none", x.clearText(), 0);
        Due.typeAll(x, "+-+");
        D.due("12: clearText()", x.clearText(), 3);
        D.due("12: it is empty", x.count(16), 0);
        D.due("12: it is empty", x.read(), -1100);
        D.due("12: again", x.clearText(), 0);
        Due.typeAll(x, "-");
        D.due("12: what was is gone", x.read(), 1);
        D.due("12: no act", x.count(15), 1);
    }

    private static void promise13Undo() {
        SpinStrips x = new SpinStrips();
        D.due("13: undo() of none", x.undo(), -1005);
        for (int column = 0; column < 6; column++) {
            x.turn(0, column);
            D.due("13: at most 4", x.count(15), column < 4 ? column + 1 : 4);
        }
        String[] before = {"-+,-+,-+,-+,-+,++", "-+,-+,-+,-+,++,++", "-+,-+,-+,++,++,++", "-+,-+,++,++,++,++"};
        for (int i = 0; i < 4; i++) {
            D.due("13: undo " + i, x.undo(), 3 - i);
            D.dueSpins("13: undo " + i, x, before[i]);
            D.due("13: turned then", x.count(13), 5 - i);
        }
        D.due("13: none is left", x.undo(), -1005);
        D.dueSpins("13: none is left", x, before[3]);
        D.due("13: undo is no act", x.count(15), 0);
        x.turn(1, 0);
        D.due("13: goes on", x.count(15), 1);
        D.due("13: undo", x.undo(), 0);
        D.dueSpins("13: undo", x, before[3]);
    }

    private static void promise13EachActIsRecorded() {
        SpinStrips x = new SpinStrips();
        x.setField(1, 1, -2);
        Due.typeAll(x, "+-,--");
        x.keep();
        for (int act = 0; act < 9; act++) {
            x.undo();
            x.restore();
            D.due("13: act " + act, doAct(x, act) > -1000 ? 1 : 0, 1);
            D.due("13: recorded " + act, x.count(15), act == 0 ? 2 : 3);
            D.due("13: undo of act " + act, x.undo(), act == 0 ? 1 : 2);
            D.dueSpins("13: undo of act " + act, x, "++,++,++,++,++,++");
            D.due("13: field after undo of act " + act, x.cell(1, 1, 1), -2);
            D.due("13: along after undo of act " + act, x.count(6), 1);
            D.due("13: across after undo of act " + act, x.count(7), 1);
            D.due("13: ring after undo of act " + act, x.count(2), 0);
            D.due("13: turned after undo of act " + act, x.count(13), 0);
            D.due("13: energy after undo of act " + act, x.count(3), -14);
            D.due("13: least energy after undo of act " + act, x.count(8), -18);
            D.due("13: strips after undo of act " + act, x.withWalls(16), 2);
            D.due("13: least ups after undo of act " + act, x.withUps(0, true), 1);
            D.due("13: text after undo of act " + act, x.count(16), 5);
            if (act == 0) {
                x.setPull(true, 2);
                x.undo();
                x.close(true);
            }
        }
    }

    private static int doAct(SpinStrips x, int act) {
        switch (act) {
            case 0: return x.lay(4, 3, true);
            case 1: return x.read();
            case 2: return x.close(true);
            case 3: return x.setPull(false, -1);
            case 4: return x.setField(0, 5, 3);
            case 5: return x.turn(1, 1);
            case 6: return x.turnPatch(0, 0);
            case 7: return x.setPull(true, -2);
            default: return x.settle();
        }
    }

    private static void promise14Keep() {
        SpinStrips x = new SpinStrips();
        x.turn(0, 0);
        D.due("14: keep()", x.keep(), -12);
        D.due("14: no act", x.count(15), 1);
        x.setField(0, 0, 3);
        D.due("14: keep() again", x.keep(), -9);
        x.turn(1, 1);
        D.due("14: in place of the one that was", x.restore(), -9);
        D.due("14: field", x.cell(0, 0, 1), 3);
        D.dueSpins("14: spins", x, "-+,++,++,++,++,++");
    }

    private static void promise15Restore() {
        SpinStrips x = new SpinStrips();
        D.due("15: there is none", x.restore(), -1005);
        D.due("15: no act", x.count(15), 0);
        x.turn(0, 0);
        x.setPull(true, -2);
        x.setPull(false, 2);
        x.setField(1, 4, -1);
        D.due("15: keep()", x.keep(), -16 + 8 + 1);
        x.lay(10, 3, true);
        x.turnPatch(0, 0);
        Due.typeAll(x, "+");
        D.due("15: least energy before", x.count(8), -60 - 40);
        D.due("15: greatest energy before", x.count(9), 60 + 40);
        D.due("15: walls before", x.withWalls(50), 2);
        D.due("15: least ups before", x.withUps(12, true), 0);
        D.due("15: restore()", x.restore(), -7);
        D.due("15: walls of all", x.withWalls(50), 0);
        D.due("15: walls of all", x.withWalls(16), 2);
        D.due("15: least ups", x.withUps(6, true), 1);
        int[] want = {6, 2, 0, -7, 2, 11, 2, -2};
        for (int what = 0; what < want.length; what++) {
            D.due("15: count(" + what + ")", x.count(what), want[what]);
        }
        D.due("15: least energy", x.count(8), -33);
        D.due("15: turned", x.count(13), 1);
        D.due("15: field", x.cell(1, 4, 1), -1);
        D.due("15: text stays", x.count(16), 1);
        D.due("15: an act", x.count(15), 4);
        x.turn(1, 1);
        D.due("15: the snapshot stays", x.restore(), -7);
        D.due("15: an act even if nothing is changed", x.restore(), -7);
        D.due("15: undo that", x.undo(), 3);
        D.dueSpins("15: undo that", x, "-+,++,++,++,++,++");
        D.due("15: undo the one before", x.undo(), 2);
        D.dueSpins("15: undo the one before", x, "-+,+-,++,++,++,++");
        D.due("15: undo does not touch the snapshot", x.restore(), -7);
    }
}
